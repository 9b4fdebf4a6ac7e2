/-! THE LAW'S LOOP -/
section LC
variable {p : Program} {l : Launch} {e : Env} {s : State} {m : MethodId} {below : List Frame} {meth : Method} {c : Code} {cells slots : Nat}
variable {dC : Nat → ClassId} {dI : Nat → Nat → Nat} {cA : Nat → ClassId} {ad : Nat → Nat} {b L : Nat} {xs : Nat → Int32}
theorem la_end {i L : Nat} (hL : L ≤ 2560) (hi : i ≤ L) (h : ¬ Int32.ofNat L - 5 < nI i) : i + 5 ≤ L := by
  rcases Nat.lt_or_ge L 5 with h5 | h5
  · exfalso
    apply h
    have hi5 : i < 5 := by omega
    match L, h5, i, hi5 with
    | 0, _, 0, _ | 0, _, 1, _ | 0, _, 2, _ | 0, _, 3, _ | 0, _, 4, _ | 1, _, 0, _ | 1, _, 1, _ | 1, _, 2, _ | 1, _, 3, _ | 1, _, 4, _ | 2, _, 0, _ | 2, _, 1, _ | 2, _, 2, _ | 2, _, 3, _ | 2, _, 4, _ | 3, _, 0, _ | 3, _, 1, _ | 3, _, 2, _ | 3, _, 3, _ | 3, _, 4, _ | 4, _, 0, _ | 4, _, 1, _ | 4, _, 2, _ | 4, _, 3, _ | 4, _, 4, _ => decide
  · have e1 : Int32.ofNat L - 5 = nI (L - 5) := by
      have : Int32.ofNat L = nI (L - 5) + 5 := by
        show nI L = nI (L - 5) + nI 5
        rw [nI_add, show L - 5 + 5 = L by omega]
      rw [this]
      exact Int32.add_sub_cancel _ _
    rw [e1] at h
    have h2 := Int32.not_lt.mp h
    have := (nI_leI (by omega) (by omega)).mp h2
    omega
set_option maxHeartbeats 4000000 in
theorem la_loop (X : la_At dC dI cA ad p s m meth c b L xs) (hL : L ≤ 2560) (hcl : cells ≤ room_1.cells) (hst : slots ≤ room_1.slots) : ∀ (n i B : Nat) (σ : ab_St) (H : Heap) (locs : List Loc) (ls : Array Slot), L ≤ i + n → i ≤ L → 99 ≤ B → B ≤ 99 + 2 * i → Inv B σ → la_Wd dC dI cA ad s σ H locs → lv_has ls 4 [(0, .ref b), (1, .ref (ad 0)), (2, .ref (ad 50)), (3, .int (nI i))] →
    W p l e room_1 s m #[Value.ref b] below meth c H locs cells slots (lw_Z below #[Value.ref b] s) (F0 m 18 ls []) := by
  intro n
  induction n with
  | zero =>
    intro i B σ H locs ls h1 h2 hB1 hB2 hI hWd hl
    obtain ⟨hx, hb, hr, hml, hown, hts, hX, hbl, hlocks, hE, hAd⟩ := id X
    have hbA : ¬ ab_Ad ad b := fun h => Nat.not_le.mpr hbl (hAd b h)
    refine lv_iload_n hx hb dl_18 rfl (lv_at hl 3 rfl) ?_
    refine lv_aload_n hx hb dl_19 rfl (lv_at hl 0 rfl) ?_
    refine va_slen hx hb hX hbl hbA hWd.2.2 dl_20 ?_
    refine lv_iconst (v := 5) hx hb dl_21 rfl ?_
    refine lv_isub hx hb dl_22 ?_
    refine lv_icmp_gt (tgt := 800) hx hb dl_23 (by decide) (fun _ => ?_) (fun h => absurd (la_end hL h2 h) (by omega))
    refine lv_iconst (v := 1) hx hb dl_800 rfl ?_
    refine va_forget (fun q hq => hAd _ (hWd.2.2.2.2 q hq)) ?_
    refine W.widen (k := 600000) (n := 7302250) hcl hst ?_
    exact lw_ret hx hb hr hlocks dl_801
  | succ n ih =>
    intro i B σ H locs ls h1 h2 hB1 hB2 hI hWd hl
    obtain ⟨hx, hb, hr, hml, hown, hts, hX, hbl, hlocks, hE, hAd⟩ := id X
    have hbA : ¬ ab_Ad ad b := fun h => Nat.not_le.mpr hbl (hAd b h)
    refine lv_iload_n hx hb dl_18 rfl (lv_at hl 3 rfl) ?_
    refine lv_aload_n hx hb dl_19 rfl (lv_at hl 0 rfl) ?_
    refine va_slen hx hb hX hbl hbA hWd.2.2 dl_20 ?_
    refine lv_iconst (v := 5) hx hb dl_21 rfl ?_
    refine lv_isub hx hb dl_22 ?_
    refine lv_icmp_gt (tgt := 800) hx hb dl_23 (by decide) (fun _ => ?_) (fun h => ?_)
    · refine lv_iconst (v := 1) hx hb dl_800 rfl ?_
      refine va_forget (fun q hq => hAd _ (hWd.2.2.2.2 q hq)) ?_
      refine W.widen (k := 600000) (n := 7302250) hcl hst ?_
      exact lw_ret hx hb hr hlocks dl_801
    have hi := la_end hL h2 h
    refine lv_aload_n hx hb dl_26 rfl (lv_at hl 0 rfl) ?_
    refine lv_iload_n hx hb dl_27 rfl (lv_at hl 3 rfl) ?_
    refine va_sld hx hb hX hbl hbA hWd.2.2 (vp_in_nI (show i < L by omega) (by omega)) dl_28 ?_
    refine lv_bipush (v := 31) hx hb dl_29 (by decide) ?_
    refine lv_iand hx hb dl_31 ?_
    obtain ⟨k, hk, he⟩ := la_code (xs (nI i).toNatClampNeg)
    rw [he]
    have hnext : ∀ (σ1 : ab_St) (H1 : Heap) (locs1 : List Loc), Inv (B + 9) σ1 → la_Wd dC dI cA ad s σ1 H1 locs1 → W p l e room_1 s m #[Value.ref b] below meth c H1 locs1 cells slots (lw_Z below #[Value.ref b] s) (F0 m 794 ls []) := by
      intro σ1 H1 locs1 hI1 hWd1
      refine lv_iinc (v := nI (i + 5)) (lv' := [(3, .int (nI (i + 5))), (0, .ref b), (1, .ref (ad 0)), (2, .ref (ad 50))]) hx hb dl_794 hl (k := 3) rfl (by rw [← nI_add]; rfl) (by decide) rfl (fun ls hl => ?_)
      refine lv_goto (tgt := 18) hx hb dl_797 (by decide) ?_
      exact ih (i + 5) (B + 9) σ1 H1 locs1 ls (by omega) hi (by omega) (by omega) hI1 hWd1 (lv_sub hl [1, 2, 3, 0] rfl)
    clear he
    match k, hk with
    | 0, _ => exact lv_tableIn (off := 112) (tgt := 144) hx hb dl_32 (by decide +kernel) (by decide +kernel) (by decide +kernel) (by decide) (la_o0 X hl hL hi hB1 (by omega) hI hWd hcl hst hnext)
    | 1, _ => exact lv_tableIn (off := 175) (tgt := 207) hx hb dl_32 (by decide +kernel) (by decide +kernel) (by decide +kernel) (by decide) (la_o1 X hl hL hi hB1 (by omega) hI hWd hcl hst hnext)
    | 2, _ => exact lv_tableIn (off := 188) (tgt := 220) hx hb dl_32 (by decide +kernel) (by decide +kernel) (by decide +kernel) (by decide) (la_o2 X hl hL hi hB1 (by omega) hI hWd hcl hst hnext)
    | 3, _ => exact lv_tableIn (off := 201) (tgt := 233) hx hb dl_32 (by decide +kernel) (by decide +kernel) (by decide +kernel) (by decide) (la_o3 X hl hL hi hB1 (by omega) hI hWd hcl hst hnext)
    | 4, _ => exact lv_tableIn (off := 214) (tgt := 246) hx hb dl_32 (by decide +kernel) (by decide +kernel) (by decide +kernel) (by decide) (la_o4 X hl hL hi hB1 (by omega) hI hWd hcl hst hnext)
    | 5, _ => exact lv_tableIn (off := 237) (tgt := 269) hx hb dl_32 (by decide +kernel) (by decide +kernel) (by decide +kernel) (by decide) (la_o5 X hl hL hi hB1 (by omega) hI hWd hcl hst hnext)
    | 6, _ => exact lv_tableIn (off := 270) (tgt := 302) hx hb dl_32 (by decide +kernel) (by decide +kernel) (by decide +kernel) (by decide) (la_o6 X hl hL hi hB1 (by omega) hI hWd hcl hst hnext)
    | 7, _ => exact lv_tableIn (off := 303) (tgt := 335) hx hb dl_32 (by decide +kernel) (by decide +kernel) (by decide +kernel) (by decide) (la_o7 X hl hL hi hB1 (by omega) hI hWd hcl hst hnext)
    | 8, _ => exact lv_tableIn (off := 326) (tgt := 358) hx hb dl_32 (by decide +kernel) (by decide +kernel) (by decide +kernel) (by decide) (la_o8 X hl hL hi hB1 (by omega) hI hWd hcl hst hnext)
    | 9, _ => exact lv_tableIn (off := 349) (tgt := 381) hx hb dl_32 (by decide +kernel) (by decide +kernel) (by decide +kernel) (by decide) (la_o9 X hl hL hi hB1 (by omega) hI hWd hcl hst hnext)
    | 10, _ => exact lv_tableIn (off := 372) (tgt := 404) hx hb dl_32 (by decide +kernel) (by decide +kernel) (by decide +kernel) (by decide) (la_o10 X hl hL hi hB1 (by omega) hI hWd hcl hst hnext)
    | 11, _ => exact lv_tableIn (off := 405) (tgt := 437) hx hb dl_32 (by decide +kernel) (by decide +kernel) (by decide +kernel) (by decide) (la_o11 X hl hL hi hB1 (by omega) hI hWd hcl hst hnext)
    | 12, _ => exact lv_tableIn (off := 428) (tgt := 460) hx hb dl_32 (by decide +kernel) (by decide +kernel) (by decide +kernel) (by decide) (la_o12 X hl hL hi hB1 (by omega) hI hWd hcl hst hnext)
    | 13, _ => exact lv_tableIn (off := 451) (tgt := 483) hx hb dl_32 (by decide +kernel) (by decide +kernel) (by decide +kernel) (by decide) (la_o13 X hl hL hi hB1 (by omega) hI hWd hcl hst hnext)
    | 14, _ => exact lv_tableIn (off := 464) (tgt := 496) hx hb dl_32 (by decide +kernel) (by decide +kernel) (by decide +kernel) (by decide) (la_o14 X hl hL hi hB1 (by omega) hI hWd hcl hst hnext)
    | 15, _ => exact lv_tableIn (off := 497) (tgt := 529) hx hb dl_32 (by decide +kernel) (by decide +kernel) (by decide +kernel) (by decide) (la_o15 X hl hL hi hB1 (by omega) hI hWd hcl hst hnext)
    | 16, _ => exact lv_tableIn (off := 520) (tgt := 552) hx hb dl_32 (by decide +kernel) (by decide +kernel) (by decide +kernel) (by decide) (la_o16 X hl hL hi hB1 (by omega) hI hWd hcl hst hnext)
    | 17, _ => exact lv_tableIn (off := 553) (tgt := 585) hx hb dl_32 (by decide +kernel) (by decide +kernel) (by decide +kernel) (by decide) (la_o17 X hl hL hi hB1 (by omega) hI hWd hcl hst hnext)
    | 18, _ => exact lv_tableIn (off := 576) (tgt := 608) hx hb dl_32 (by decide +kernel) (by decide +kernel) (by decide +kernel) (by decide) (la_o18 X hl hL hi hB1 (by omega) hI hWd hcl hst hnext)
    | 19, _ => exact lv_tableIn (off := 599) (tgt := 631) hx hb dl_32 (by decide +kernel) (by decide +kernel) (by decide +kernel) (by decide) (la_o19 X hl hL hi hB1 (by omega) hI hWd hcl hst hnext)
    | 20, _ => exact lv_tableIn (off := 612) (tgt := 644) hx hb dl_32 (by decide +kernel) (by decide +kernel) (by decide +kernel) (by decide) (la_o20 X hl hL hi hB1 (by omega) hI hWd hcl hst hnext)
    | 21, _ => exact lv_tableIn (off := 646) (tgt := 678) hx hb dl_32 (by decide +kernel) (by decide +kernel) (by decide +kernel) (by decide) (la_o21 X hl hL hi hB1 (by omega) hI hWd hcl hst hnext)
    | 22, _ => exact lv_tableIn (off := 716) (tgt := 748) hx hb dl_32 (by decide +kernel) (by decide +kernel) (by decide +kernel) (by decide) (la_o22 X hl hL hi hB1 (by omega) hI hWd hcl hst hnext)
    | 23, _ => exact lv_tableIn (off := 739) (tgt := 771) hx hb dl_32 (by decide +kernel) (by decide +kernel) (by decide +kernel) (by decide) (la_o23 X hl hL hi hB1 (by omega) hI hWd hcl hst hnext)
    | 24, _ => exact lv_tableOut (tgt := 794) hx hb dl_32 (by decide +kernel) (by decide) (hnext _ _ _ (hI.sam (by omega) (sam_rf _)) hWd)
    | 25, _ => exact lv_tableOut (tgt := 794) hx hb dl_32 (by decide +kernel) (by decide) (hnext _ _ _ (hI.sam (by omega) (sam_rf _)) hWd)
    | 26, _ => exact lv_tableOut (tgt := 794) hx hb dl_32 (by decide +kernel) (by decide) (hnext _ _ _ (hI.sam (by omega) (sam_rf _)) hWd)
    | 27, _ => exact lv_tableOut (tgt := 794) hx hb dl_32 (by decide +kernel) (by decide) (hnext _ _ _ (hI.sam (by omega) (sam_rf _)) hWd)
    | 28, _ => exact lv_tableOut (tgt := 794) hx hb dl_32 (by decide +kernel) (by decide) (hnext _ _ _ (hI.sam (by omega) (sam_rf _)) hWd)
    | 29, _ => exact lv_tableOut (tgt := 794) hx hb dl_32 (by decide +kernel) (by decide) (hnext _ _ _ (hI.sam (by omega) (sam_rf _)) hWd)
    | 30, _ => exact lv_tableOut (tgt := 794) hx hb dl_32 (by decide +kernel) (by decide) (hnext _ _ _ (hI.sam (by omega) (sam_rf _)) hWd)
    | 31, _ => exact lv_tableOut (tgt := 794) hx hb dl_32 (by decide +kernel) (by decide) (hnext _ _ _ (hI.sam (by omega) (sam_rf _)) hWd)
    | k + 32, hk => exact absurd hk (by omega)
end LC
