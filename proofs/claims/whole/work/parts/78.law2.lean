/-! THE LAW'S DECODE ROWS AND LINKS, by program -/
theorem dl_0 : decode code 0 = .ok (.new 7, 3) := by decide +kernel
theorem dl_3 : decode code 3 = .ok (.dup, 1) := by decide +kernel
theorem dl_4 : decode code 4 = .ok (.invokespecial 9, 3) := by decide +kernel
theorem dl_7 : decode code 7 = .ok (.astore_n 1, 1) := by decide +kernel
theorem dl_8 : decode code 8 = .ok (.new 10, 3) := by decide +kernel
theorem dl_11 : decode code 11 = .ok (.dup, 1) := by decide +kernel
theorem dl_12 : decode code 12 = .ok (.invokespecial 12, 3) := by decide +kernel
theorem dl_15 : decode code 15 = .ok (.astore_n 2, 1) := by decide +kernel
theorem dl_16 : decode code 16 = .ok (.iconst 0, 1) := by decide +kernel
theorem dl_17 : decode code 17 = .ok (.istore_n 3, 1) := by decide +kernel
theorem dl_18 : decode code 18 = .ok (.iload_n 3, 1) := by decide +kernel
theorem dl_19 : decode code 19 = .ok (.aload_n 0, 1) := by decide +kernel
theorem dl_20 : decode code 20 = .ok (.arraylength, 1) := by decide +kernel
theorem dl_21 : decode code 21 = .ok (.iconst 5, 1) := by decide +kernel
theorem dl_22 : decode code 22 = .ok (.isub, 1) := by decide +kernel
theorem dl_23 : decode code 23 = .ok (.if_icmp .gt 777, 3) := by decide +kernel
theorem dl_26 : decode code 26 = .ok (.aload_n 0, 1) := by decide +kernel
theorem dl_27 : decode code 27 = .ok (.iload_n 3, 1) := by decide +kernel
theorem dl_28 : decode code 28 = .ok (.iaload, 1) := by decide +kernel
theorem dl_29 : decode code 29 = .ok (.bipush 31, 2) := by decide +kernel
theorem dl_31 : decode code 31 = .ok (.iand, 1) := by decide +kernel
theorem dl_144 : decode code 144 = .ok (.aload_n 1, 1) := by decide +kernel
theorem dl_155 : decode code 155 = .ok (.i2l, 1) := by decide +kernel
theorem dl_156 : decode code 156 = .ok (.bipush 32, 2) := by decide +kernel
theorem dl_158 : decode code 158 = .ok (.lshl, 1) := by decide +kernel
theorem dl_164 : decode code 164 = .ok (.i2l, 1) := by decide +kernel
theorem dl_165 : decode code 165 = .ok (.ldc2_w 13, 3) := by decide +kernel
theorem dl_168 : decode code 168 = .ok (.land, 1) := by decide +kernel
theorem dl_169 : decode code 169 = .ok (.lor, 1) := by decide +kernel
theorem dl_170 : decode code 170 = .ok (.invokevirtual 15, 3) := by decide +kernel
theorem dl_173 : decode code 173 = .ok (.aload_n 2, 1) := by decide +kernel
theorem dl_184 : decode code 184 = .ok (.i2l, 1) := by decide +kernel
theorem dl_185 : decode code 185 = .ok (.bipush 32, 2) := by decide +kernel
theorem dl_187 : decode code 187 = .ok (.lshl, 1) := by decide +kernel
theorem dl_193 : decode code 193 = .ok (.i2l, 1) := by decide +kernel
theorem dl_194 : decode code 194 = .ok (.ldc2_w 13, 3) := by decide +kernel
theorem dl_197 : decode code 197 = .ok (.land, 1) := by decide +kernel
theorem dl_198 : decode code 198 = .ok (.lor, 1) := by decide +kernel
theorem dl_199 : decode code 199 = .ok (.invokevirtual 19, 3) := by decide +kernel
theorem dl_202 : decode code 202 = .ok (.if_icmp .eq 592, 3) := by decide +kernel
theorem dl_207 : decode code 207 = .ok (.aload_n 1, 1) := by decide +kernel
theorem dl_208 : decode code 208 = .ok (.invokevirtual 20, 3) := by decide +kernel
theorem dl_211 : decode code 211 = .ok (.aload_n 2, 1) := by decide +kernel
theorem dl_212 : decode code 212 = .ok (.invokevirtual 24, 3) := by decide +kernel
theorem dl_215 : decode code 215 = .ok (.if_icmp .eq 579, 3) := by decide +kernel
theorem dl_220 : decode code 220 = .ok (.aload_n 1, 1) := by decide +kernel
theorem dl_221 : decode code 221 = .ok (.invokevirtual 25, 3) := by decide +kernel
theorem dl_224 : decode code 224 = .ok (.aload_n 2, 1) := by decide +kernel
theorem dl_225 : decode code 225 = .ok (.invokevirtual 28, 3) := by decide +kernel
theorem dl_228 : decode code 228 = .ok (.if_icmp .eq 566, 3) := by decide +kernel
theorem dl_233 : decode code 233 = .ok (.aload_n 1, 1) := by decide +kernel
theorem dl_234 : decode code 234 = .ok (.invokevirtual 29, 3) := by decide +kernel
theorem dl_237 : decode code 237 = .ok (.aload_n 2, 1) := by decide +kernel
theorem dl_238 : decode code 238 = .ok (.invokevirtual 32, 3) := by decide +kernel
theorem dl_241 : decode code 241 = .ok (.if_icmp .eq 553, 3) := by decide +kernel
theorem dl_246 : decode code 246 = .ok (.aload_n 1, 1) := by decide +kernel
theorem dl_252 : decode code 252 = .ok (.invokevirtual 33, 3) := by decide +kernel
theorem dl_255 : decode code 255 = .ok (.aload_n 2, 1) := by decide +kernel
theorem dl_261 : decode code 261 = .ok (.invokevirtual 37, 3) := by decide +kernel
theorem dl_264 : decode code 264 = .ok (.if_icmp .eq 530, 3) := by decide +kernel
theorem dl_269 : decode code 269 = .ok (.aload_n 1, 1) := by decide +kernel
theorem dl_280 : decode code 280 = .ok (.invokevirtual 38, 3) := by decide +kernel
theorem dl_283 : decode code 283 = .ok (.aload_n 2, 1) := by decide +kernel
theorem dl_294 : decode code 294 = .ok (.invokevirtual 42, 3) := by decide +kernel
theorem dl_297 : decode code 297 = .ok (.if_icmp .eq 497, 3) := by decide +kernel
theorem dl_302 : decode code 302 = .ok (.aload_n 1, 1) := by decide +kernel
theorem dl_313 : decode code 313 = .ok (.invokevirtual 43, 3) := by decide +kernel
theorem dl_316 : decode code 316 = .ok (.aload_n 2, 1) := by decide +kernel
theorem dl_327 : decode code 327 = .ok (.invokevirtual 46, 3) := by decide +kernel
theorem dl_330 : decode code 330 = .ok (.if_icmp .eq 464, 3) := by decide +kernel
theorem dl_335 : decode code 335 = .ok (.aload_n 1, 1) := by decide +kernel
theorem dl_341 : decode code 341 = .ok (.invokevirtual 47, 3) := by decide +kernel
theorem dl_344 : decode code 344 = .ok (.aload_n 2, 1) := by decide +kernel
theorem dl_350 : decode code 350 = .ok (.invokevirtual 50, 3) := by decide +kernel
theorem dl_353 : decode code 353 = .ok (.if_icmp .eq 441, 3) := by decide +kernel
theorem dl_358 : decode code 358 = .ok (.aload_n 1, 1) := by decide +kernel
theorem dl_364 : decode code 364 = .ok (.invokevirtual 51, 3) := by decide +kernel
theorem dl_367 : decode code 367 = .ok (.aload_n 2, 1) := by decide +kernel
theorem dl_373 : decode code 373 = .ok (.invokevirtual 54, 3) := by decide +kernel
theorem dl_376 : decode code 376 = .ok (.if_icmp .eq 418, 3) := by decide +kernel
theorem dl_381 : decode code 381 = .ok (.aload_n 1, 1) := by decide +kernel
theorem dl_387 : decode code 387 = .ok (.invokevirtual 55, 3) := by decide +kernel
theorem dl_390 : decode code 390 = .ok (.aload_n 2, 1) := by decide +kernel
theorem dl_396 : decode code 396 = .ok (.invokevirtual 58, 3) := by decide +kernel
theorem dl_399 : decode code 399 = .ok (.if_icmp .eq 395, 3) := by decide +kernel
theorem dl_404 : decode code 404 = .ok (.aload_n 1, 1) := by decide +kernel
theorem dl_415 : decode code 415 = .ok (.invokevirtual 59, 3) := by decide +kernel
theorem dl_418 : decode code 418 = .ok (.aload_n 2, 1) := by decide +kernel
theorem dl_429 : decode code 429 = .ok (.invokevirtual 62, 3) := by decide +kernel
theorem dl_432 : decode code 432 = .ok (.if_icmp .eq 362, 3) := by decide +kernel
theorem dl_437 : decode code 437 = .ok (.aload_n 1, 1) := by decide +kernel
theorem dl_443 : decode code 443 = .ok (.invokevirtual 63, 3) := by decide +kernel
theorem dl_446 : decode code 446 = .ok (.aload_n 2, 1) := by decide +kernel
theorem dl_452 : decode code 452 = .ok (.invokevirtual 66, 3) := by decide +kernel
theorem dl_455 : decode code 455 = .ok (.if_icmp .eq 339, 3) := by decide +kernel
theorem dl_460 : decode code 460 = .ok (.aload_n 1, 1) := by decide +kernel
theorem dl_466 : decode code 466 = .ok (.invokevirtual 67, 3) := by decide +kernel
theorem dl_469 : decode code 469 = .ok (.aload_n 2, 1) := by decide +kernel
theorem dl_475 : decode code 475 = .ok (.invokevirtual 70, 3) := by decide +kernel
theorem dl_478 : decode code 478 = .ok (.if_icmp .eq 316, 3) := by decide +kernel
theorem dl_483 : decode code 483 = .ok (.aload_n 1, 1) := by decide +kernel
theorem dl_484 : decode code 484 = .ok (.invokevirtual 71, 3) := by decide +kernel
theorem dl_487 : decode code 487 = .ok (.aload_n 2, 1) := by decide +kernel
theorem dl_488 : decode code 488 = .ok (.invokevirtual 74, 3) := by decide +kernel
theorem dl_491 : decode code 491 = .ok (.if_icmp .eq 303, 3) := by decide +kernel
theorem dl_496 : decode code 496 = .ok (.aload_n 1, 1) := by decide +kernel
theorem dl_507 : decode code 507 = .ok (.invokevirtual 75, 3) := by decide +kernel
theorem dl_510 : decode code 510 = .ok (.aload_n 2, 1) := by decide +kernel
theorem dl_521 : decode code 521 = .ok (.invokevirtual 78, 3) := by decide +kernel
theorem dl_524 : decode code 524 = .ok (.if_icmp .eq 270, 3) := by decide +kernel
theorem dl_529 : decode code 529 = .ok (.aload_n 1, 1) := by decide +kernel
theorem dl_535 : decode code 535 = .ok (.invokevirtual 79, 3) := by decide +kernel
theorem dl_538 : decode code 538 = .ok (.aload_n 2, 1) := by decide +kernel
theorem dl_544 : decode code 544 = .ok (.invokevirtual 82, 3) := by decide +kernel
theorem dl_547 : decode code 547 = .ok (.if_icmp .eq 247, 3) := by decide +kernel
theorem dl_552 : decode code 552 = .ok (.aload_n 1, 1) := by decide +kernel
theorem dl_563 : decode code 563 = .ok (.invokevirtual 83, 3) := by decide +kernel
theorem dl_566 : decode code 566 = .ok (.aload_n 2, 1) := by decide +kernel
theorem dl_577 : decode code 577 = .ok (.invokevirtual 86, 3) := by decide +kernel
theorem dl_580 : decode code 580 = .ok (.if_icmp .eq 214, 3) := by decide +kernel
theorem dl_585 : decode code 585 = .ok (.aload_n 1, 1) := by decide +kernel
theorem dl_591 : decode code 591 = .ok (.invokevirtual 87, 3) := by decide +kernel
theorem dl_594 : decode code 594 = .ok (.aload_n 2, 1) := by decide +kernel
theorem dl_600 : decode code 600 = .ok (.invokevirtual 90, 3) := by decide +kernel
theorem dl_603 : decode code 603 = .ok (.if_icmp .eq 191, 3) := by decide +kernel
theorem dl_608 : decode code 608 = .ok (.aload_n 1, 1) := by decide +kernel
theorem dl_614 : decode code 614 = .ok (.invokevirtual 91, 3) := by decide +kernel
theorem dl_617 : decode code 617 = .ok (.aload_n 2, 1) := by decide +kernel
theorem dl_623 : decode code 623 = .ok (.invokevirtual 94, 3) := by decide +kernel
theorem dl_626 : decode code 626 = .ok (.if_icmp .eq 168, 3) := by decide +kernel
theorem dl_631 : decode code 631 = .ok (.aload_n 1, 1) := by decide +kernel
theorem dl_632 : decode code 632 = .ok (.invokevirtual 95, 3) := by decide +kernel
theorem dl_635 : decode code 635 = .ok (.aload_n 2, 1) := by decide +kernel
theorem dl_636 : decode code 636 = .ok (.invokevirtual 98, 3) := by decide +kernel
theorem dl_639 : decode code 639 = .ok (.if_icmp .eq 155, 3) := by decide +kernel
theorem dl_644 : decode code 644 = .ok (.aload_n 1, 1) := by decide +kernel
theorem dl_655 : decode code 655 = .ok (.invokevirtual 99, 3) := by decide +kernel
theorem dl_658 : decode code 658 = .ok (.aload_n 2, 1) := by decide +kernel
theorem dl_669 : decode code 669 = .ok (.invokevirtual 103, 3) := by decide +kernel
theorem dl_672 : decode code 672 = .ok (.lcmp, 1) := by decide +kernel
theorem dl_673 : decode code 673 = .ok (.ifCond .eq 121, 3) := by decide +kernel
theorem dl_678 : decode code 678 = .ok (.aload_n 1, 1) := by decide +kernel
theorem dl_699 : decode code 699 = .ok (.ifCond .eq 7, 3) := by decide +kernel
theorem dl_702 : decode code 702 = .ok (.iconst 1, 1) := by decide +kernel
theorem dl_703 : decode code 703 = .ok (.goto 4, 3) := by decide +kernel
theorem dl_706 : decode code 706 = .ok (.iconst 0, 1) := by decide +kernel
theorem dl_707 : decode code 707 = .ok (.invokevirtual 104, 3) := by decide +kernel
theorem dl_710 : decode code 710 = .ok (.aload_n 2, 1) := by decide +kernel
theorem dl_731 : decode code 731 = .ok (.ifCond .eq 7, 3) := by decide +kernel
theorem dl_734 : decode code 734 = .ok (.iconst 1, 1) := by decide +kernel
theorem dl_735 : decode code 735 = .ok (.goto 4, 3) := by decide +kernel
theorem dl_738 : decode code 738 = .ok (.iconst 0, 1) := by decide +kernel
theorem dl_739 : decode code 739 = .ok (.invokevirtual 108, 3) := by decide +kernel
theorem dl_742 : decode code 742 = .ok (.lcmp, 1) := by decide +kernel
theorem dl_743 : decode code 743 = .ok (.ifCond .eq 51, 3) := by decide +kernel
theorem dl_748 : decode code 748 = .ok (.aload_n 1, 1) := by decide +kernel
theorem dl_754 : decode code 754 = .ok (.invokevirtual 109, 3) := by decide +kernel
theorem dl_757 : decode code 757 = .ok (.aload_n 2, 1) := by decide +kernel
theorem dl_763 : decode code 763 = .ok (.invokevirtual 112, 3) := by decide +kernel
theorem dl_766 : decode code 766 = .ok (.if_icmp .eq 28, 3) := by decide +kernel
theorem dl_771 : decode code 771 = .ok (.aload_n 1, 1) := by decide +kernel
theorem dl_777 : decode code 777 = .ok (.invokevirtual 113, 3) := by decide +kernel
theorem dl_780 : decode code 780 = .ok (.aload_n 2, 1) := by decide +kernel
theorem dl_786 : decode code 786 = .ok (.invokevirtual 116, 3) := by decide +kernel
theorem dl_789 : decode code 789 = .ok (.if_icmp .eq 5, 3) := by decide +kernel
theorem dl_794 : decode code 794 = .ok (.iinc 3 5, 3) := by decide +kernel
theorem dl_797 : decode code 797 = .ok (.goto (-779), 3) := by decide +kernel
theorem dl_800 : decode code 800 = .ok (.iconst 1, 1) := by decide +kernel
theorem dl_801 : decode code 801 = .ok (.ireturn, 1) := by decide +kernel
theorem dl_32 : decode code 32 = .ok (.tableswitch 762 0 23 #[112, 175, 188, 201, 214, 237, 270, 303, 326, 349, 372, 405, 428, 451, 464, 497, 520, 553, 576, 599, 612, 646, 716, 739], 112) := by decide +kernel
theorem bk_145 : la_bk 145 1 := by unfold la_bk; decide +kernel
theorem bk_150 : la_bk 150 2 := by unfold la_bk; decide +kernel
theorem bk_159 : la_bk 159 3 := by unfold la_bk; decide +kernel
theorem bk_174 : la_bk 174 1 := by unfold la_bk; decide +kernel
theorem bk_179 : la_bk 179 2 := by unfold la_bk; decide +kernel
theorem bk_188 : la_bk 188 3 := by unfold la_bk; decide +kernel
theorem bk_247 : la_bk 247 1 := by unfold la_bk; decide +kernel
theorem bk_256 : la_bk 256 1 := by unfold la_bk; decide +kernel
theorem bk_270 : la_bk 270 1 := by unfold la_bk; decide +kernel
theorem bk_275 : la_bk 275 2 := by unfold la_bk; decide +kernel
theorem bk_284 : la_bk 284 1 := by unfold la_bk; decide +kernel
theorem bk_289 : la_bk 289 2 := by unfold la_bk; decide +kernel
theorem bk_303 : la_bk 303 1 := by unfold la_bk; decide +kernel
theorem bk_308 : la_bk 308 2 := by unfold la_bk; decide +kernel
theorem bk_317 : la_bk 317 1 := by unfold la_bk; decide +kernel
theorem bk_322 : la_bk 322 2 := by unfold la_bk; decide +kernel
theorem bk_336 : la_bk 336 1 := by unfold la_bk; decide +kernel
theorem bk_345 : la_bk 345 1 := by unfold la_bk; decide +kernel
theorem bk_359 : la_bk 359 1 := by unfold la_bk; decide +kernel
theorem bk_368 : la_bk 368 1 := by unfold la_bk; decide +kernel
theorem bk_382 : la_bk 382 1 := by unfold la_bk; decide +kernel
theorem bk_391 : la_bk 391 1 := by unfold la_bk; decide +kernel
theorem bk_405 : la_bk 405 1 := by unfold la_bk; decide +kernel
theorem bk_410 : la_bk 410 2 := by unfold la_bk; decide +kernel
theorem bk_419 : la_bk 419 1 := by unfold la_bk; decide +kernel
theorem bk_424 : la_bk 424 2 := by unfold la_bk; decide +kernel
theorem bk_438 : la_bk 438 1 := by unfold la_bk; decide +kernel
theorem bk_447 : la_bk 447 1 := by unfold la_bk; decide +kernel
theorem bk_461 : la_bk 461 1 := by unfold la_bk; decide +kernel
theorem bk_470 : la_bk 470 1 := by unfold la_bk; decide +kernel
theorem bk_497 : la_bk 497 1 := by unfold la_bk; decide +kernel
theorem bk_502 : la_bk 502 2 := by unfold la_bk; decide +kernel
theorem bk_511 : la_bk 511 1 := by unfold la_bk; decide +kernel
theorem bk_516 : la_bk 516 2 := by unfold la_bk; decide +kernel
theorem bk_530 : la_bk 530 1 := by unfold la_bk; decide +kernel
theorem bk_539 : la_bk 539 1 := by unfold la_bk; decide +kernel
theorem bk_553 : la_bk 553 1 := by unfold la_bk; decide +kernel
theorem bk_558 : la_bk 558 2 := by unfold la_bk; decide +kernel
theorem bk_567 : la_bk 567 1 := by unfold la_bk; decide +kernel
theorem bk_572 : la_bk 572 2 := by unfold la_bk; decide +kernel
theorem bk_586 : la_bk 586 1 := by unfold la_bk; decide +kernel
theorem bk_595 : la_bk 595 1 := by unfold la_bk; decide +kernel
theorem bk_609 : la_bk 609 1 := by unfold la_bk; decide +kernel
theorem bk_618 : la_bk 618 1 := by unfold la_bk; decide +kernel
theorem bk_645 : la_bk 645 1 := by unfold la_bk; decide +kernel
theorem bk_650 : la_bk 650 2 := by unfold la_bk; decide +kernel
theorem bk_659 : la_bk 659 1 := by unfold la_bk; decide +kernel
theorem bk_664 : la_bk 664 2 := by unfold la_bk; decide +kernel
theorem bk_679 : la_bk 679 1 := by unfold la_bk; decide +kernel
theorem bk_684 : la_bk 684 2 := by unfold la_bk; decide +kernel
theorem bk_689 : la_bk 689 3 := by unfold la_bk; decide +kernel
theorem bk_694 : la_bk 694 4 := by unfold la_bk; decide +kernel
theorem bk_711 : la_bk 711 1 := by unfold la_bk; decide +kernel
theorem bk_716 : la_bk 716 2 := by unfold la_bk; decide +kernel
theorem bk_721 : la_bk 721 3 := by unfold la_bk; decide +kernel
theorem bk_726 : la_bk 726 4 := by unfold la_bk; decide +kernel
theorem bk_749 : la_bk 749 1 := by unfold la_bk; decide +kernel
theorem bk_758 : la_bk 758 1 := by unfold la_bk; decide +kernel
theorem bk_772 : la_bk 772 1 := by unfold la_bk; decide +kernel
theorem bk_781 : la_bk 781 1 := by unfold la_bk; decide +kernel
theorem lw_15 : la_lk 15 11 2 := ⟨by decide, ⟨by decide, by decide, by decide⟩, by decide +kernel, ls0, ab_gt_in (by decide +kernel) rfl, ab_gt_in (by decide +kernel) rfl, ab_gt_in (by decide +kernel) rfl, ⟨ab_T0, rfl⟩, by decide⟩
theorem lw_19 : la_lk 19 100 2 := ⟨by decide, ⟨by decide, by decide, by decide⟩, by decide +kernel, ls10, ab_gt_in (by decide +kernel) rfl, ab_gt_in (by decide +kernel) rfl, ab_gt_in (by decide +kernel) rfl, ⟨ab_T10, rfl⟩, by decide⟩
theorem lw_20 : la_lk 20 13 0 := ⟨by decide, ⟨by decide, by decide, by decide⟩, by decide +kernel, ls0, ab_gt_in (by decide +kernel) rfl, ab_gt_in (by decide +kernel) rfl, ab_gt_in (by decide +kernel) rfl, ⟨ab_T0, rfl⟩, by decide⟩
theorem lw_24 : la_lk 24 102 0 := ⟨by decide, ⟨by decide, by decide, by decide⟩, by decide +kernel, ls10, ab_gt_in (by decide +kernel) rfl, ab_gt_in (by decide +kernel) rfl, ab_gt_in (by decide +kernel) rfl, ⟨ab_T10, rfl⟩, by decide⟩
theorem lw_25 : la_lk 25 14 0 := ⟨by decide, ⟨by decide, by decide, by decide⟩, by decide +kernel, ls0, ab_gt_in (by decide +kernel) rfl, ab_gt_in (by decide +kernel) rfl, ab_gt_in (by decide +kernel) rfl, ⟨ab_T0, rfl⟩, by decide⟩
theorem lw_28 : la_lk 28 103 0 := ⟨by decide, ⟨by decide, by decide, by decide⟩, by decide +kernel, ls10, ab_gt_in (by decide +kernel) rfl, ab_gt_in (by decide +kernel) rfl, ab_gt_in (by decide +kernel) rfl, ⟨ab_T10, rfl⟩, by decide⟩
theorem lw_29 : la_lk 29 33 0 := ⟨by decide, ⟨by decide, by decide, by decide⟩, by decide +kernel, ls0, ab_gt_in (by decide +kernel) rfl, ab_gt_in (by decide +kernel) rfl, ab_gt_in (by decide +kernel) rfl, ⟨ab_T0, rfl⟩, by decide⟩
theorem lw_32 : la_lk 32 110 0 := ⟨by decide, ⟨by decide, by decide, by decide⟩, by decide +kernel, ls10, ab_gt_in (by decide +kernel) rfl, ab_gt_in (by decide +kernel) rfl, ab_gt_in (by decide +kernel) rfl, ⟨ab_T10, rfl⟩, by decide⟩
theorem lw_33 : la_lk 33 37 1 := ⟨by decide, ⟨by decide, by decide, by decide⟩, by decide +kernel, ls0, ab_gt_in (by decide +kernel) rfl, ab_gt_in (by decide +kernel) rfl, ab_gt_in (by decide +kernel) rfl, ⟨ab_T0, rfl⟩, by decide⟩
theorem lw_37 : la_lk 37 111 1 := ⟨by decide, ⟨by decide, by decide, by decide⟩, by decide +kernel, ls10, ab_gt_in (by decide +kernel) rfl, ab_gt_in (by decide +kernel) rfl, ab_gt_in (by decide +kernel) rfl, ⟨ab_T10, rfl⟩, by decide⟩
theorem lw_38 : la_lk 38 41 2 := ⟨by decide, ⟨by decide, by decide, by decide⟩, by decide +kernel, ls0, ab_gt_in (by decide +kernel) rfl, ab_gt_in (by decide +kernel) rfl, ab_gt_in (by decide +kernel) rfl, ⟨ab_T0, rfl⟩, by decide⟩
theorem lw_42 : la_lk 42 116 2 := ⟨by decide, ⟨by decide, by decide, by decide⟩, by decide +kernel, ls10, ab_gt_in (by decide +kernel) rfl, ab_gt_in (by decide +kernel) rfl, ab_gt_in (by decide +kernel) rfl, ⟨ab_T10, rfl⟩, by decide⟩
theorem lw_43 : la_lk 43 43 2 := ⟨by decide, ⟨by decide, by decide, by decide⟩, by decide +kernel, ls0, ab_gt_in (by decide +kernel) rfl, ab_gt_in (by decide +kernel) rfl, ab_gt_in (by decide +kernel) rfl, ⟨ab_T0, rfl⟩, by decide⟩
theorem lw_46 : la_lk 46 118 2 := ⟨by decide, ⟨by decide, by decide, by decide⟩, by decide +kernel, ls10, ab_gt_in (by decide +kernel) rfl, ab_gt_in (by decide +kernel) rfl, ab_gt_in (by decide +kernel) rfl, ⟨ab_T10, rfl⟩, by decide⟩
theorem lw_47 : la_lk 47 44 1 := ⟨by decide, ⟨by decide, by decide, by decide⟩, by decide +kernel, ls0, ab_gt_in (by decide +kernel) rfl, ab_gt_in (by decide +kernel) rfl, ab_gt_in (by decide +kernel) rfl, ⟨ab_T0, rfl⟩, by decide⟩
theorem lw_50 : la_lk 50 120 1 := ⟨by decide, ⟨by decide, by decide, by decide⟩, by decide +kernel, ls10, ab_gt_in (by decide +kernel) rfl, ab_gt_in (by decide +kernel) rfl, ab_gt_in (by decide +kernel) rfl, ⟨ab_T10, rfl⟩, by decide⟩
theorem lw_51 : la_lk 51 45 1 := ⟨by decide, ⟨by decide, by decide, by decide⟩, by decide +kernel, ls0, ab_gt_in (by decide +kernel) rfl, ab_gt_in (by decide +kernel) rfl, ab_gt_in (by decide +kernel) rfl, ⟨ab_T0, rfl⟩, by decide⟩
theorem lw_54 : la_lk 54 121 1 := ⟨by decide, ⟨by decide, by decide, by decide⟩, by decide +kernel, ls10, ab_gt_in (by decide +kernel) rfl, ab_gt_in (by decide +kernel) rfl, ab_gt_in (by decide +kernel) rfl, ⟨ab_T10, rfl⟩, by decide⟩
theorem lw_55 : la_lk 55 47 1 := ⟨by decide, ⟨by decide, by decide, by decide⟩, by decide +kernel, ls0, ab_gt_in (by decide +kernel) rfl, ab_gt_in (by decide +kernel) rfl, ab_gt_in (by decide +kernel) rfl, ⟨ab_T0, rfl⟩, by decide⟩
theorem lw_58 : la_lk 58 123 1 := ⟨by decide, ⟨by decide, by decide, by decide⟩, by decide +kernel, ls10, ab_gt_in (by decide +kernel) rfl, ab_gt_in (by decide +kernel) rfl, ab_gt_in (by decide +kernel) rfl, ⟨ab_T10, rfl⟩, by decide⟩
theorem lw_59 : la_lk 59 50 2 := ⟨by decide, ⟨by decide, by decide, by decide⟩, by decide +kernel, ls0, ab_gt_in (by decide +kernel) rfl, ab_gt_in (by decide +kernel) rfl, ab_gt_in (by decide +kernel) rfl, ⟨ab_T0, rfl⟩, by decide⟩
theorem lw_62 : la_lk 62 126 2 := ⟨by decide, ⟨by decide, by decide, by decide⟩, by decide +kernel, ls10, ab_gt_in (by decide +kernel) rfl, ab_gt_in (by decide +kernel) rfl, ab_gt_in (by decide +kernel) rfl, ⟨ab_T10, rfl⟩, by decide⟩
theorem lw_63 : la_lk 63 51 1 := ⟨by decide, ⟨by decide, by decide, by decide⟩, by decide +kernel, ls0, ab_gt_in (by decide +kernel) rfl, ab_gt_in (by decide +kernel) rfl, ab_gt_in (by decide +kernel) rfl, ⟨ab_T0, rfl⟩, by decide⟩
theorem lw_66 : la_lk 66 127 1 := ⟨by decide, ⟨by decide, by decide, by decide⟩, by decide +kernel, ls10, ab_gt_in (by decide +kernel) rfl, ab_gt_in (by decide +kernel) rfl, ab_gt_in (by decide +kernel) rfl, ⟨ab_T10, rfl⟩, by decide⟩
theorem lw_67 : la_lk 67 57 1 := ⟨by decide, ⟨by decide, by decide, by decide⟩, by decide +kernel, ls0, ab_gt_in (by decide +kernel) rfl, ab_gt_in (by decide +kernel) rfl, ab_gt_in (by decide +kernel) rfl, ⟨ab_T0, rfl⟩, by decide⟩
theorem lw_70 : la_lk 70 128 1 := ⟨by decide, ⟨by decide, by decide, by decide⟩, by decide +kernel, ls10, ab_gt_in (by decide +kernel) rfl, ab_gt_in (by decide +kernel) rfl, ab_gt_in (by decide +kernel) rfl, ⟨ab_T10, rfl⟩, by decide⟩
theorem lw_71 : la_lk 71 58 0 := ⟨by decide, ⟨by decide, by decide, by decide⟩, by decide +kernel, ls0, ab_gt_in (by decide +kernel) rfl, ab_gt_in (by decide +kernel) rfl, ab_gt_in (by decide +kernel) rfl, ⟨ab_T0, rfl⟩, by decide⟩
theorem lw_74 : la_lk 74 130 0 := ⟨by decide, ⟨by decide, by decide, by decide⟩, by decide +kernel, ls10, ab_gt_in (by decide +kernel) rfl, ab_gt_in (by decide +kernel) rfl, ab_gt_in (by decide +kernel) rfl, ⟨ab_T10, rfl⟩, by decide⟩
theorem lw_75 : la_lk 75 60 2 := ⟨by decide, ⟨by decide, by decide, by decide⟩, by decide +kernel, ls0, ab_gt_in (by decide +kernel) rfl, ab_gt_in (by decide +kernel) rfl, ab_gt_in (by decide +kernel) rfl, ⟨ab_T0, rfl⟩, by decide⟩
theorem lw_78 : la_lk 78 132 2 := ⟨by decide, ⟨by decide, by decide, by decide⟩, by decide +kernel, ls10, ab_gt_in (by decide +kernel) rfl, ab_gt_in (by decide +kernel) rfl, ab_gt_in (by decide +kernel) rfl, ⟨ab_T10, rfl⟩, by decide⟩
theorem lw_79 : la_lk 79 61 1 := ⟨by decide, ⟨by decide, by decide, by decide⟩, by decide +kernel, ls0, ab_gt_in (by decide +kernel) rfl, ab_gt_in (by decide +kernel) rfl, ab_gt_in (by decide +kernel) rfl, ⟨ab_T0, rfl⟩, by decide⟩
theorem lw_82 : la_lk 82 134 1 := ⟨by decide, ⟨by decide, by decide, by decide⟩, by decide +kernel, ls10, ab_gt_in (by decide +kernel) rfl, ab_gt_in (by decide +kernel) rfl, ab_gt_in (by decide +kernel) rfl, ⟨ab_T10, rfl⟩, by decide⟩
theorem lw_83 : la_lk 83 70 2 := ⟨by decide, ⟨by decide, by decide, by decide⟩, by decide +kernel, ls0, ab_gt_in (by decide +kernel) rfl, ab_gt_in (by decide +kernel) rfl, ab_gt_in (by decide +kernel) rfl, ⟨ab_T0, rfl⟩, by decide⟩
theorem lw_86 : la_lk 86 137 2 := ⟨by decide, ⟨by decide, by decide, by decide⟩, by decide +kernel, ls10, ab_gt_in (by decide +kernel) rfl, ab_gt_in (by decide +kernel) rfl, ab_gt_in (by decide +kernel) rfl, ⟨ab_T10, rfl⟩, by decide⟩
theorem lw_87 : la_lk 87 75 1 := ⟨by decide, ⟨by decide, by decide, by decide⟩, by decide +kernel, ls0, ab_gt_in (by decide +kernel) rfl, ab_gt_in (by decide +kernel) rfl, ab_gt_in (by decide +kernel) rfl, ⟨ab_T0, rfl⟩, by decide⟩
theorem lw_90 : la_lk 90 138 1 := ⟨by decide, ⟨by decide, by decide, by decide⟩, by decide +kernel, ls10, ab_gt_in (by decide +kernel) rfl, ab_gt_in (by decide +kernel) rfl, ab_gt_in (by decide +kernel) rfl, ⟨ab_T10, rfl⟩, by decide⟩
theorem lw_91 : la_lk 91 77 1 := ⟨by decide, ⟨by decide, by decide, by decide⟩, by decide +kernel, ls0, ab_gt_in (by decide +kernel) rfl, ab_gt_in (by decide +kernel) rfl, ab_gt_in (by decide +kernel) rfl, ⟨ab_T0, rfl⟩, by decide⟩
theorem lw_94 : la_lk 94 139 1 := ⟨by decide, ⟨by decide, by decide, by decide⟩, by decide +kernel, ls10, ab_gt_in (by decide +kernel) rfl, ab_gt_in (by decide +kernel) rfl, ab_gt_in (by decide +kernel) rfl, ⟨ab_T10, rfl⟩, by decide⟩
theorem lw_95 : la_lk 95 79 0 := ⟨by decide, ⟨by decide, by decide, by decide⟩, by decide +kernel, ls0, ab_gt_in (by decide +kernel) rfl, ab_gt_in (by decide +kernel) rfl, ab_gt_in (by decide +kernel) rfl, ⟨ab_T0, rfl⟩, by decide⟩
theorem lw_98 : la_lk 98 140 0 := ⟨by decide, ⟨by decide, by decide, by decide⟩, by decide +kernel, ls10, ab_gt_in (by decide +kernel) rfl, ab_gt_in (by decide +kernel) rfl, ab_gt_in (by decide +kernel) rfl, ⟨ab_T10, rfl⟩, by decide⟩
theorem lw_99 : la_lk 99 85 2 := ⟨by decide, ⟨by decide, by decide, by decide⟩, by decide +kernel, ls0, ab_gt_in (by decide +kernel) rfl, ab_gt_in (by decide +kernel) rfl, ab_gt_in (by decide +kernel) rfl, ⟨ab_T0, rfl⟩, by decide⟩
theorem lw_103 : la_lk 103 142 2 := ⟨by decide, ⟨by decide, by decide, by decide⟩, by decide +kernel, ls10, ab_gt_in (by decide +kernel) rfl, ab_gt_in (by decide +kernel) rfl, ab_gt_in (by decide +kernel) rfl, ⟨ab_T10, rfl⟩, by decide⟩
theorem lw_104 : la_lk 104 92 4 := ⟨by decide, ⟨by decide, by decide, by decide⟩, by decide +kernel, ls0, ab_gt_in (by decide +kernel) rfl, ab_gt_in (by decide +kernel) rfl, ab_gt_in (by decide +kernel) rfl, ⟨ab_T0, rfl⟩, by decide⟩
theorem lw_108 : la_lk 108 144 4 := ⟨by decide, ⟨by decide, by decide, by decide⟩, by decide +kernel, ls10, ab_gt_in (by decide +kernel) rfl, ab_gt_in (by decide +kernel) rfl, ab_gt_in (by decide +kernel) rfl, ⟨ab_T10, rfl⟩, by decide⟩
theorem lw_109 : la_lk 109 97 1 := ⟨by decide, ⟨by decide, by decide, by decide⟩, by decide +kernel, ls0, ab_gt_in (by decide +kernel) rfl, ab_gt_in (by decide +kernel) rfl, ab_gt_in (by decide +kernel) rfl, ⟨ab_T0, rfl⟩, by decide⟩
theorem lw_112 : la_lk 112 147 1 := ⟨by decide, ⟨by decide, by decide, by decide⟩, by decide +kernel, ls10, ab_gt_in (by decide +kernel) rfl, ab_gt_in (by decide +kernel) rfl, ab_gt_in (by decide +kernel) rfl, ⟨ab_T10, rfl⟩, by decide⟩
theorem lw_113 : la_lk 113 98 1 := ⟨by decide, ⟨by decide, by decide, by decide⟩, by decide +kernel, ls0, ab_gt_in (by decide +kernel) rfl, ab_gt_in (by decide +kernel) rfl, ab_gt_in (by decide +kernel) rfl, ⟨ab_T0, rfl⟩, by decide⟩
theorem lw_116 : la_lk 116 148 1 := ⟨by decide, ⟨by decide, by decide, by decide⟩, by decide +kernel, ls10, ab_gt_in (by decide +kernel) rfl, ab_gt_in (by decide +kernel) rfl, ab_gt_in (by decide +kernel) rfl, ⟨ab_T10, rfl⟩, by decide⟩
theorem lw_k13 : Cond.constantLong R_law 13 4294967295 ∈ ab_gt := ab_gt_in (by decide +kernel) rfl
theorem la_cmp (z : Int64) : lg_cmp z z = 0 := by
  unfold lg_cmp
  rw [if_neg (fun h : z > z => Int64.lt_irrefl h), if_pos rfl]
