/-! KEEP, AGAIN: two slots each -/
set_option maxHeartbeats 8000000 in
theorem op_keep0 {B : Nat} {σ : ab_St} (hI : Inv B σ) : op2 B σ 97 [some (.ref 0), some (.int 0)] 147 [some (.ref 50), some (.int 0)] := by
  obtain ⟨tn, tx, t, f, th, sd, la, lw, h, ⟨ac, fi, hw, hf, hth, hsd, hla, ha⟩, ks, hk⟩ := id hI
  obtain ⟨h1, h2, h3, h4, h5, h6, h7⟩ := id h
  have hP := h1.1
  have hth6 : th < 64 := by have := two_le _ h1.1; have := h5.1; omega
  obtain ⟨k1, k2, ⟨k3a, k3b⟩, k4, k5⟩ := id hk
  refine op2_v (.int (nI (cnt th 6))) ?_
  have n1 : ((0 : Int32) < 0) = False := eq_false (by decide)
  have n2 : ((0 : Int32) < 2) = True := eq_true (by decide)
  have ein : ab_in (0 : Int32) 2 = True := eq_true (in_nI (j := 0) (n := 2) (by decide) (by decide))
  have ecl : (0 : Int32).toNatClampNeg = 0 := rfl
  have eks : nI ks ||| 1 <<< ((0 : Int32) &&& 31) = nI (ks ||| 2 ^ 0) := nI_set (a := ks) (k := 0) (by omega) (by decide)
  have c35' := fun Q => c35 (d := 6) (c := 27) (w := 28) (c2 := 16) (w2 := 17) (σ := σ) (Q := Q) sk27 sk16 rfl rfl sk28 sk17 sn28 sn17 (by decide)
  simp only [e97_0, e97_1, e97_4, e97_5, e97_6, e97_9, e97_10, e97_11, e97_12, e97_15, e97_16, e97_17, e97_18, e97_21, e97_24, e97_25, e97_26, e97_29, e97_30, e97_31, e97_32, e97_33, e97_36, e97_37, e97_40, e97_43, true_or, or_true, true_and, and_true, Option.toList, List.cons_append, List.nil_append, if_true, if_false, reduceIte, n1, n2, sk0, sr0_6, sr0_3, sk26, sn26, ein, ecl, sr26_0, sk27, sk16, c35', wI_get, upd_get, Nat.reduceEqDiff, reduceIte, if_true, if_false, k2, eks]
  rw [c53 (d := 6) (th := th) sk16 (by simp only [wI_get, upd_get, Nat.reduceEqDiff, reduceIte, if_true, if_false]; exact h6.2.1) hth6]
  simp only [e97_0, e97_1, e97_4, e97_5, e97_6, e97_9, e97_10, e97_11, e97_12, e97_15, e97_16, e97_17, e97_18, e97_21, e97_24, e97_25, e97_26, e97_29, e97_30, e97_31, e97_32, e97_33, e97_36, e97_37, e97_40, e97_43, true_or, or_true, true_and, and_true, Option.toList, List.cons_append, List.nil_append, if_true, if_false, reduceIte]
  generalize hς : ab_wI (ab_wI (ab_wI σ 28 (cpN 6 (σ.1 17) (σ.1 28))) 27 (upd (upd (upd (upd (σ.1 27) 1 (σ.1 16 1)) 2 (σ.1 16 2)) 3 (σ.1 16 3)) 4 (σ.1 16 4))) 0 (upd (σ.1 0) 10 (nI (ks ||| 2 ^ 0))) = ς
  have hag : ag [1, 2, 9, 11, 12, 13, 14, 15, 16, 17, 20, 21, 22, 23, 24, 25, 29, 30, 50, 51, 52, 53, 54, 55, 56, 62, 63, 64] σ ς := by
    rw [← hς]
    exact ag_w (ag_w (ag_w (ag_rf _ _) (by decide)) (by decide)) (by decide)
  have hin : decide ((0 : Int64) ≤ (0 : Int32).toInt64 ∧ (0 : Int32).toInt64 ≤ 1) = true := by decide
  have e16 : (16 : Int32) * 0 = nI 0 := by decide
  have e25 : nI 0 + 9 = nI 9 := by decide
  simp only [e147_0, e147_1, e147_2, e147_5, e147_6, e147_7, e147_8, e147_9, e147_12, e147_17, e147_18, e147_21, e147_22, e147_23, e147_24, e147_25, e147_26, e147_29, e147_31, e147_32, e147_33, true_or, or_true, true_and, and_true, Option.toList, List.cons_append, List.nil_append, if_true, if_false, reduceIte, sk50, sk63, sr50_26, sr50_27, sk64, sn64, wI_get, upd_get, Nat.reduceEqDiff, reduceIte, if_true, if_false, hag 50 (by decide), c101, hin, bI_0, Bool.true_eq_false, ein, ecl, nar_1, hag 64 (by decide), e16, show ¬ (102 = 101) by decide, false_and]
  rw [c125 (c := 63) (a := 0) (n := 32) sk63 sn63 (by decide) (by decide) (by decide) (by decide)]
  have ein2 : ab_in (nI 9) 32 = True := eq_true (in_nI (j := 9) (n := 32) (by decide) (by decide))
  have ecl2 : (nI 9).toNatClampNeg = 9 := by decide
  simp only [e147_0, e147_1, e147_2, e147_5, e147_6, e147_7, e147_8, e147_9, e147_12, e147_15, e147_16, e147_17, e147_18, e147_21, e147_22, e147_23, e147_24, e147_25, e147_26, e147_29, e147_31, e147_32, e147_33, e147_36, e147_37, e147_40, e147_42, e147_43, e147_44, e147_46, e147_47, e147_48, e147_51, e147_52, e147_53, e147_56, e147_59, true_or, or_true, true_and, and_true, Option.toList, List.cons_append, List.nil_append, if_true, if_false, reduceIte, sk50, sk63, sn63, sr50_26, wI_get, upd_get, Nat.reduceEqDiff, reduceIte, if_true, if_false, hag 50 (by decide), hag 52 (by decide), hag 63 (by decide), e16, e25, ein2, ecl2, h6.2.2.1, h6.2.2.2.2.1, h6.2.2.2.2.2.2.1, h6.2.2.2.2.2.2.2.2, c129 hth6, wI_wI]
  refine ⟨tn, tx, t, f, th, sd, la, lw, ⟨h1, iTx_ag h2 ?_ ?_, tdV_ag h3 ?_, mdV_ag h4 ?_ ?_, nok_up (by omega) h5, iNow_ag h6 ?_ ?_, ?_⟩, ⟨ac, fi, hw, hf, hth, hsd, hla, iAc_ag (by omega) ha ?_ ?_⟩, ks ||| 2 ^ 0, ?_⟩
  · repeat (first | exact ag_sub hag (by decide) | refine ag_w ?_ (by decide))
  · intro j hj; simp only [List.mem_cons, List.not_mem_nil, or_false] at hj; subst hj; simp only [wI_get, upd_get, Nat.reduceEqDiff, reduceIte, if_true, if_false]
  · repeat (first | exact ag_sub hag (by decide) | refine ag_w ?_ (by decide))
  · repeat (first | exact ag_sub hag (by decide) | refine ag_w ?_ (by decide))
  · intro j hj; simp only [List.mem_cons, List.not_mem_nil, or_false] at hj; rcases hj with rfl | rfl <;> simp only [wI_get, upd_get, Nat.reduceEqDiff, reduceIte, if_true, if_false]
  · repeat (first | exact ag_sub hag (by decide) | refine ag_w ?_ (by decide))
  · intro j hj; simp only [List.mem_cons, List.not_mem_nil, or_false] at hj; rcases hj with rfl | rfl | rfl | rfl <;> simp only [wI_get, upd_get, Nat.reduceEqDiff, reduceIte, if_true, if_false]
  · simp only [wI_get, upd_get, Nat.reduceEqDiff, reduceIte, if_true, if_false, hag 9 (by decide)]; exact h7
  · repeat (first | exact ag_sub hag (by decide) | refine ag_w ?_ (by decide))
  · intro j hj; simp only [List.mem_cons, List.not_mem_nil, or_false] at hj; subst hj; simp only [wI_get, upd_get, Nat.reduceEqDiff, reduceIte, if_true, if_false]
  · have ec : ς.1 27 = upd (upd (upd (upd (σ.1 27) 1 (σ.1 16 1)) 2 (σ.1 16 2)) 3 (σ.1 16 3)) 4 (σ.1 16 4) := by rw [← hς]; simp only [wI_get, upd_get, Nat.reduceEqDiff, reduceIte, if_true, if_false]
    have ew : ς.1 28 = cpN 6 (σ.1 17) (σ.1 28) := by rw [← hς]; simp only [wI_get, upd_get, Nat.reduceEqDiff, reduceIte, if_true, if_false]
    have e0 : ς.1 0 10 = nI (ks ||| 2 ^ 0) := by rw [← hς]; simp only [wI_get, upd_get, Nat.reduceEqDiff, reduceIte, if_true, if_false]
    have bo : (ks ||| 2 ^ 0).testBit 1 = ks.testBit 1 := by rw [bit_set]; simp
    have bs : (ks ||| 2 ^ 0).testBit 0 = true := by rw [bit_set]; simp
    refine ⟨Nat.or_lt_two_pow (n := 2) k1 (by decide), ?_, ⟨?_, ?_⟩, fun hb => ?_, fun hb => ?_⟩
    · simp only [wI_get, upd_get, Nat.reduceEqDiff, reduceIte, if_true, if_false]; exact e0
    · simp only [wI_get, upd_get, Nat.reduceEqDiff, reduceIte, if_true, if_false]; rw [bs]; rfl
    · simp only [wI_get, upd_get, Nat.reduceEqDiff, reduceIte, if_true, if_false]; rw [bo]; exact k3b
    · refine ⟨f, th, sd, la, lw, nok_up (by omega) h5, fun q hq => ⟨?_, ?_⟩, ⟨?_, ?_, ?_, ?_⟩, ?_, ?_, ?_, ?_⟩
      · simp only [wI_get, upd_get, Nat.reduceEqDiff, reduceIte, if_true, if_false, ew]; rw [cp6 (by omega)]; exact (h6.1 q hq).1
      · simp only [wI_get, upd_get, Nat.reduceEqDiff, reduceIte, if_true, if_false]; rw [if_neg (show ¬ 16 * 0 + q = 9 by omega), pgL_w (a := 0) (by omega)]; exact (h6.1 q hq).2
      · simp only [wI_get, upd_get, Nat.reduceEqDiff, reduceIte, if_true, if_false, ec]; exact h6.2.1
      · simp only [wI_get, upd_get, Nat.reduceEqDiff, reduceIte, if_true, if_false, ec]; exact h6.2.2.2.1
      · simp only [wI_get, upd_get, Nat.reduceEqDiff, reduceIte, if_true, if_false, ec]; exact h6.2.2.2.2.2.1
      · simp only [wI_get, upd_get, Nat.reduceEqDiff, reduceIte, if_true, if_false, ec]; exact h6.2.2.2.2.2.2.2.1
      · simp only [wI_get, upd_get, Nat.reduceEqDiff, reduceIte, if_true, if_false]; rw [if_neg (by decide)]; exact pgL_6 (a := 0)
      · simp only [wI_get, upd_get, Nat.reduceEqDiff, reduceIte, if_true, if_false]; rw [if_neg (by decide)]; exact pgL_7 (a := 0)
      · simp only [wI_get, upd_get, Nat.reduceEqDiff, reduceIte, if_true, if_false]; rw [if_neg (by decide)]; exact pgL_8 (a := 0)
      · simp only [wI_get, upd_get, Nat.reduceEqDiff, reduceIte, if_true, if_false]
    · rw [bo] at hb
      obtain ⟨kf, kth, ksd, kla, klw, d1, d2, d3, d4, d5, d6, d7⟩ := k5 hb
      refine ⟨kf, kth, ksd, kla, klw, nok_up (by omega) d1, fun q hq => ⟨?_, ?_⟩, ?_, ?_, ?_, ?_, ?_⟩
      · simp only [wI_get, upd_get, Nat.reduceEqDiff, reduceIte, if_true, if_false, hag 30 (by decide)]; exact (d2 q hq).1
      · simp only [wI_get, upd_get, Nat.reduceEqDiff, reduceIte, if_true, if_false]; rw [if_neg (show ¬ 16 * 1 + q = 9 by omega), pgL_o (a := 0) (by omega)]; exact (d2 q hq).2
      · simp only [wI_get, upd_get, Nat.reduceEqDiff, reduceIte, if_true, if_false, hag 29 (by decide)]; exact d3
      · simp only [wI_get, upd_get, Nat.reduceEqDiff, reduceIte, if_true, if_false]; rw [if_neg (by decide), pgL_o (a := 0) (by decide)]; exact d4
      · simp only [wI_get, upd_get, Nat.reduceEqDiff, reduceIte, if_true, if_false]; rw [if_neg (by decide), pgL_o (a := 0) (by decide)]; exact d5
      · simp only [wI_get, upd_get, Nat.reduceEqDiff, reduceIte, if_true, if_false]; rw [if_neg (by decide), pgL_o (a := 0) (by decide)]; exact d6
      · simp only [wI_get, upd_get, Nat.reduceEqDiff, reduceIte, if_true, if_false]; rw [if_neg (by decide), pgL_o (a := 0) (by decide)]; exact d7
set_option maxHeartbeats 8000000 in
theorem op_keep1 {B : Nat} {σ : ab_St} (hI : Inv B σ) : op2 B σ 97 [some (.ref 0), some (.int 1)] 147 [some (.ref 50), some (.int 1)] := by
  obtain ⟨tn, tx, t, f, th, sd, la, lw, h, ⟨ac, fi, hw, hf, hth, hsd, hla, ha⟩, ks, hk⟩ := id hI
  obtain ⟨h1, h2, h3, h4, h5, h6, h7⟩ := id h
  have hP := h1.1
  have hth6 : th < 64 := by have := two_le _ h1.1; have := h5.1; omega
  obtain ⟨k1, k2, ⟨k3a, k3b⟩, k4, k5⟩ := id hk
  refine op2_v (.int (nI (cnt th 6))) ?_
  have n1 : ((1 : Int32) < 0) = False := eq_false (by decide)
  have n2 : ((1 : Int32) < 2) = True := eq_true (by decide)
  have ein : ab_in (1 : Int32) 2 = True := eq_true (in_nI (j := 1) (n := 2) (by decide) (by decide))
  have ecl : (1 : Int32).toNatClampNeg = 1 := rfl
  have eks : nI ks ||| 1 <<< ((1 : Int32) &&& 31) = nI (ks ||| 2 ^ 1) := nI_set (a := ks) (k := 1) (by omega) (by decide)
  have c35' := fun Q => c35 (d := 6) (c := 29) (w := 30) (c2 := 16) (w2 := 17) (σ := σ) (Q := Q) sk29 sk16 rfl rfl sk30 sk17 sn30 sn17 (by decide)
  simp only [e97_0, e97_1, e97_4, e97_5, e97_6, e97_9, e97_10, e97_11, e97_12, e97_15, e97_16, e97_17, e97_18, e97_21, e97_24, e97_25, e97_26, e97_29, e97_30, e97_31, e97_32, e97_33, e97_36, e97_37, e97_40, e97_43, true_or, or_true, true_and, and_true, Option.toList, List.cons_append, List.nil_append, if_true, if_false, reduceIte, n1, n2, sk0, sr0_6, sr0_3, sk26, sn26, ein, ecl, sr26_1, sk29, sk16, c35', wI_get, upd_get, Nat.reduceEqDiff, reduceIte, if_true, if_false, k2, eks]
  rw [c53 (d := 6) (th := th) sk16 (by simp only [wI_get, upd_get, Nat.reduceEqDiff, reduceIte, if_true, if_false]; exact h6.2.1) hth6]
  simp only [e97_0, e97_1, e97_4, e97_5, e97_6, e97_9, e97_10, e97_11, e97_12, e97_15, e97_16, e97_17, e97_18, e97_21, e97_24, e97_25, e97_26, e97_29, e97_30, e97_31, e97_32, e97_33, e97_36, e97_37, e97_40, e97_43, true_or, or_true, true_and, and_true, Option.toList, List.cons_append, List.nil_append, if_true, if_false, reduceIte]
  generalize hς : ab_wI (ab_wI (ab_wI σ 30 (cpN 6 (σ.1 17) (σ.1 30))) 29 (upd (upd (upd (upd (σ.1 29) 1 (σ.1 16 1)) 2 (σ.1 16 2)) 3 (σ.1 16 3)) 4 (σ.1 16 4))) 0 (upd (σ.1 0) 10 (nI (ks ||| 2 ^ 1))) = ς
  have hag : ag [1, 2, 9, 11, 12, 13, 14, 15, 16, 17, 20, 21, 22, 23, 24, 25, 27, 28, 50, 51, 52, 53, 54, 55, 56, 62, 63, 64] σ ς := by
    rw [← hς]
    exact ag_w (ag_w (ag_w (ag_rf _ _) (by decide)) (by decide)) (by decide)
  have hin : decide ((0 : Int64) ≤ (1 : Int32).toInt64 ∧ (1 : Int32).toInt64 ≤ 1) = true := by decide
  have e16 : (16 : Int32) * 1 = nI 16 := by decide
  have e25 : nI 16 + 9 = nI 25 := by decide
  simp only [e147_0, e147_1, e147_2, e147_5, e147_6, e147_7, e147_8, e147_9, e147_12, e147_17, e147_18, e147_21, e147_22, e147_23, e147_24, e147_25, e147_26, e147_29, e147_31, e147_32, e147_33, true_or, or_true, true_and, and_true, Option.toList, List.cons_append, List.nil_append, if_true, if_false, reduceIte, sk50, sk63, sr50_26, sr50_27, sk64, sn64, wI_get, upd_get, Nat.reduceEqDiff, reduceIte, if_true, if_false, hag 50 (by decide), c101, hin, bI_0, Bool.true_eq_false, ein, ecl, nar_1, hag 64 (by decide), e16, show ¬ (102 = 101) by decide, false_and]
  rw [c125 (c := 63) (a := 16) (n := 32) sk63 sn63 (by decide) (by decide) (by decide) (by decide)]
  have ein2 : ab_in (nI 25) 32 = True := eq_true (in_nI (j := 25) (n := 32) (by decide) (by decide))
  have ecl2 : (nI 25).toNatClampNeg = 25 := by decide
  simp only [e147_0, e147_1, e147_2, e147_5, e147_6, e147_7, e147_8, e147_9, e147_12, e147_15, e147_16, e147_17, e147_18, e147_21, e147_22, e147_23, e147_24, e147_25, e147_26, e147_29, e147_31, e147_32, e147_33, e147_36, e147_37, e147_40, e147_42, e147_43, e147_44, e147_46, e147_47, e147_48, e147_51, e147_52, e147_53, e147_56, e147_59, true_or, or_true, true_and, and_true, Option.toList, List.cons_append, List.nil_append, if_true, if_false, reduceIte, sk50, sk63, sn63, sr50_26, wI_get, upd_get, Nat.reduceEqDiff, reduceIte, if_true, if_false, hag 50 (by decide), hag 52 (by decide), hag 63 (by decide), e16, e25, ein2, ecl2, h6.2.2.1, h6.2.2.2.2.1, h6.2.2.2.2.2.2.1, h6.2.2.2.2.2.2.2.2, c129 hth6, wI_wI]
  refine ⟨tn, tx, t, f, th, sd, la, lw, ⟨h1, iTx_ag h2 ?_ ?_, tdV_ag h3 ?_, mdV_ag h4 ?_ ?_, nok_up (by omega) h5, iNow_ag h6 ?_ ?_, ?_⟩, ⟨ac, fi, hw, hf, hth, hsd, hla, iAc_ag (by omega) ha ?_ ?_⟩, ks ||| 2 ^ 1, ?_⟩
  · repeat (first | exact ag_sub hag (by decide) | refine ag_w ?_ (by decide))
  · intro j hj; simp only [List.mem_cons, List.not_mem_nil, or_false] at hj; subst hj; simp only [wI_get, upd_get, Nat.reduceEqDiff, reduceIte, if_true, if_false]
  · repeat (first | exact ag_sub hag (by decide) | refine ag_w ?_ (by decide))
  · repeat (first | exact ag_sub hag (by decide) | refine ag_w ?_ (by decide))
  · intro j hj; simp only [List.mem_cons, List.not_mem_nil, or_false] at hj; rcases hj with rfl | rfl <;> simp only [wI_get, upd_get, Nat.reduceEqDiff, reduceIte, if_true, if_false]
  · repeat (first | exact ag_sub hag (by decide) | refine ag_w ?_ (by decide))
  · intro j hj; simp only [List.mem_cons, List.not_mem_nil, or_false] at hj; rcases hj with rfl | rfl | rfl | rfl <;> simp only [wI_get, upd_get, Nat.reduceEqDiff, reduceIte, if_true, if_false]
  · simp only [wI_get, upd_get, Nat.reduceEqDiff, reduceIte, if_true, if_false, hag 9 (by decide)]; exact h7
  · repeat (first | exact ag_sub hag (by decide) | refine ag_w ?_ (by decide))
  · intro j hj; simp only [List.mem_cons, List.not_mem_nil, or_false] at hj; subst hj; simp only [wI_get, upd_get, Nat.reduceEqDiff, reduceIte, if_true, if_false]
  · have ec : ς.1 29 = upd (upd (upd (upd (σ.1 29) 1 (σ.1 16 1)) 2 (σ.1 16 2)) 3 (σ.1 16 3)) 4 (σ.1 16 4) := by rw [← hς]; simp only [wI_get, upd_get, Nat.reduceEqDiff, reduceIte, if_true, if_false]
    have ew : ς.1 30 = cpN 6 (σ.1 17) (σ.1 30) := by rw [← hς]; simp only [wI_get, upd_get, Nat.reduceEqDiff, reduceIte, if_true, if_false]
    have e0 : ς.1 0 10 = nI (ks ||| 2 ^ 1) := by rw [← hς]; simp only [wI_get, upd_get, Nat.reduceEqDiff, reduceIte, if_true, if_false]
    have bo : (ks ||| 2 ^ 1).testBit 0 = ks.testBit 0 := by rw [bit_set]; simp
    have bs : (ks ||| 2 ^ 1).testBit 1 = true := by rw [bit_set]; simp
    refine ⟨Nat.or_lt_two_pow (n := 2) k1 (by decide), ?_, ⟨?_, ?_⟩, fun hb => ?_, fun hb => ?_⟩
    · simp only [wI_get, upd_get, Nat.reduceEqDiff, reduceIte, if_true, if_false]; exact e0
    · simp only [wI_get, upd_get, Nat.reduceEqDiff, reduceIte, if_true, if_false]; rw [bo]; exact k3a
    · simp only [wI_get, upd_get, Nat.reduceEqDiff, reduceIte, if_true, if_false]; rw [bs]; rfl
    · rw [bo] at hb
      obtain ⟨kf, kth, ksd, kla, klw, d1, d2, d3, d4, d5, d6, d7⟩ := k4 hb
      refine ⟨kf, kth, ksd, kla, klw, nok_up (by omega) d1, fun q hq => ⟨?_, ?_⟩, ?_, ?_, ?_, ?_, ?_⟩
      · simp only [wI_get, upd_get, Nat.reduceEqDiff, reduceIte, if_true, if_false, hag 28 (by decide)]; exact (d2 q hq).1
      · simp only [wI_get, upd_get, Nat.reduceEqDiff, reduceIte, if_true, if_false]; rw [if_neg (show ¬ 16 * 0 + q = 25 by omega), pgL_o (a := 16) (by omega)]; exact (d2 q hq).2
      · simp only [wI_get, upd_get, Nat.reduceEqDiff, reduceIte, if_true, if_false, hag 27 (by decide)]; exact d3
      · simp only [wI_get, upd_get, Nat.reduceEqDiff, reduceIte, if_true, if_false]; rw [if_neg (by decide), pgL_o (a := 16) (by decide)]; exact d4
      · simp only [wI_get, upd_get, Nat.reduceEqDiff, reduceIte, if_true, if_false]; rw [if_neg (by decide), pgL_o (a := 16) (by decide)]; exact d5
      · simp only [wI_get, upd_get, Nat.reduceEqDiff, reduceIte, if_true, if_false]; rw [if_neg (by decide), pgL_o (a := 16) (by decide)]; exact d6
      · simp only [wI_get, upd_get, Nat.reduceEqDiff, reduceIte, if_true, if_false]; rw [if_neg (by decide), pgL_o (a := 16) (by decide)]; exact d7
    · refine ⟨f, th, sd, la, lw, nok_up (by omega) h5, fun q hq => ⟨?_, ?_⟩, ⟨?_, ?_, ?_, ?_⟩, ?_, ?_, ?_, ?_⟩
      · simp only [wI_get, upd_get, Nat.reduceEqDiff, reduceIte, if_true, if_false, ew]; rw [cp6 (by omega)]; exact (h6.1 q hq).1
      · simp only [wI_get, upd_get, Nat.reduceEqDiff, reduceIte, if_true, if_false]; rw [if_neg (show ¬ 16 * 1 + q = 25 by omega), pgL_w (a := 16) (by omega)]; exact (h6.1 q hq).2
      · simp only [wI_get, upd_get, Nat.reduceEqDiff, reduceIte, if_true, if_false, ec]; exact h6.2.1
      · simp only [wI_get, upd_get, Nat.reduceEqDiff, reduceIte, if_true, if_false, ec]; exact h6.2.2.2.1
      · simp only [wI_get, upd_get, Nat.reduceEqDiff, reduceIte, if_true, if_false, ec]; exact h6.2.2.2.2.2.1
      · simp only [wI_get, upd_get, Nat.reduceEqDiff, reduceIte, if_true, if_false, ec]; exact h6.2.2.2.2.2.2.2.1
      · simp only [wI_get, upd_get, Nat.reduceEqDiff, reduceIte, if_true, if_false]; rw [if_neg (by decide)]; exact pgL_6 (a := 16)
      · simp only [wI_get, upd_get, Nat.reduceEqDiff, reduceIte, if_true, if_false]; rw [if_neg (by decide)]; exact pgL_7 (a := 16)
      · simp only [wI_get, upd_get, Nat.reduceEqDiff, reduceIte, if_true, if_false]; rw [if_neg (by decide)]; exact pgL_8 (a := 16)
      · simp only [wI_get, upd_get, Nat.reduceEqDiff, reduceIte, if_true, if_false]
set_option maxHeartbeats 8000000 in
theorem op_again0 {B : Nat} {σ : ab_St} (hI : Inv B σ) : op2 B σ 98 [some (.ref 0), some (.int 0)] 148 [some (.ref 50), some (.int 0)] := by
  obtain ⟨tn, tx, t, f, th, sd, la, lw, h, ⟨ac, fi, hw, hf, hth, hsd, hla, ha⟩, ks, hk⟩ := id hI
  obtain ⟨h1, h2, h3, h4, h5, h6, h7⟩ := id h
  have hP := h1.1
  obtain ⟨k1, k2, ⟨k3a, k3b⟩, k4, k5⟩ := id hk
  have s0 : sam σ (ab_wI σ 50 (upd (σ.1 50) 0 0)) := sam_50 (by decide)
  have n1 : ((0 : Int32) < 0) = False := eq_false (by decide)
  have n2 : ((0 : Int32) < 2) = True := eq_true (by decide)
  have ein : ab_in (0 : Int32) 2 = True := eq_true (in_nI (j := 0) (n := 2) (by decide) (by decide))
  have ecl : (0 : Int32).toNatClampNeg = 0 := rfl
  have hin : decide ((0 : Int64) ≤ (0 : Int32).toInt64 ∧ (0 : Int32).toInt64 ≤ 1) = true := by decide
  have c32' := fun Q => c32 (d := 7) (s := ks) (k := 0) (σ := σ) (Q := Q) (by omega) (by decide)
  rw [show nI 0 = (0 : Int32) from rfl] at c32'
  cases hb : ks.testBit 0
  · refine op2_q (.int (-3)) hI ?_
    simp only [e98_0, e98_1, e98_4, e98_5, e98_6, e98_9, e98_10, e98_11, e98_12, e98_15, e98_16, e98_19, e98_22, e98_24, e98_25, e98_26, e98_29, e98_30, e98_33, e98_34, e98_35, e98_38, e98_39, e98_42, e98_45, e98_46, e98_49, e98_52, true_or, or_true, true_and, and_true, Option.toList, List.cons_append, List.nil_append, if_true, if_false, reduceIte, n1, n2, sk0, k2, c32', hb, bI_0]
    refine ⟨sam_rf σ, ?_⟩
    simp only [e148_0, e148_1, e148_2, e148_5, e148_6, e148_7, e148_8, e148_9, e148_12, e148_15, e148_16, e148_17, e148_18, e148_21, e148_22, e148_23, e148_26, e148_28, e148_29, e148_30, e148_31, e148_34, e148_36, e148_37, e148_38, e148_41, e148_42, e148_43, e148_46, e148_48, e148_49, e148_50, e148_52, e148_53, e148_54, e148_57, e148_58, e148_59, e148_62, e148_63, e148_66, e148_69, true_or, or_true, true_and, and_true, Option.toList, List.cons_append, List.nil_append, if_true, if_false, reduceIte, sk50, sr50_27, sk64, sn64, wI_get, upd_get, Nat.reduceEqDiff, reduceIte, if_true, if_false, c101, hin, bI_0, Bool.true_eq_false, ein, ecl, k3a, hb]
    exact s0
  · obtain ⟨kf, kth, ksd, kla, klw, d1, d2, ⟨d3a, d3b, d3c, d3d⟩, d4, d5, d6, d7⟩ := k4 hb
    have hth6 : kth < 64 := by have := two_le _ h1.1; have := d1.1; omega
    refine op2_v (.int (nI (cnt kth 6))) ?_
    have c35' := fun Q => c35 (d := 6) (c := 16) (w := 17) (c2 := 27) (w2 := 28) (σ := σ) (Q := Q) sk16 sk27 rfl rfl sk17 sk28 sn17 sn28 (by decide)
    simp only [e98_0, e98_1, e98_4, e98_5, e98_6, e98_9, e98_10, e98_11, e98_12, e98_15, e98_16, e98_19, e98_22, e98_24, e98_25, e98_26, e98_29, e98_30, e98_33, e98_34, e98_35, e98_38, e98_39, e98_42, e98_45, e98_46, e98_49, e98_52, true_or, or_true, true_and, and_true, Option.toList, List.cons_append, List.nil_append, if_true, if_false, reduceIte, n1, n2, sk0, sr0_6, sr0_3, sr0_5, sk20, sk26, sn26, ein, ecl, sr26_0, sk27, sk16, k2, c32', hb, bI_0, Bool.true_eq_false, c35', c36 (d := 7) (c := 20) sk20, wI_get, upd_get, Nat.reduceEqDiff, reduceIte, if_true, if_false]
    rw [c53 (d := 6) (th := kth) sk16 (by simp only [wI_get, upd_get, Nat.reduceEqDiff, reduceIte, if_true, if_false]; exact d3a) hth6]
    simp only [e98_0, e98_1, e98_4, e98_5, e98_6, e98_9, e98_10, e98_11, e98_12, e98_15, e98_16, e98_19, e98_22, e98_24, e98_25, e98_26, e98_29, e98_30, e98_33, e98_34, e98_35, e98_38, e98_39, e98_42, e98_45, e98_46, e98_49, e98_52, true_or, or_true, true_and, and_true, Option.toList, List.cons_append, List.nil_append, if_true, if_false, reduceIte]
    generalize hς : ab_wI (ab_wI (ab_wI σ 17 (cpN 6 (σ.1 28) (σ.1 17))) 16 (upd (upd (upd (upd (σ.1 16) 1 (σ.1 27 1)) 2 (σ.1 27 2)) 3 (σ.1 27 3)) 4 (σ.1 27 4))) 20 (upd (σ.1 20) 6 0) = ς
    have hag : ag [0, 1, 2, 9, 11, 12, 13, 14, 15, 21, 22, 23, 24, 25, 27, 28, 29, 30, 50, 51, 52, 53, 54, 55, 56, 62, 63, 64] σ ς := by
      rw [← hς]
      exact ag_w (ag_w (ag_w (ag_rf _ _) (by decide)) (by decide)) (by decide)
    have e16 : (16 : Int32) * 0 = nI 0 := by decide
    have e25 : nI 0 + 9 = nI 9 := by decide
    simp only [e148_0, e148_1, e148_2, e148_5, e148_6, e148_7, e148_8, e148_9, e148_12, e148_17, e148_18, e148_21, e148_22, e148_23, e148_29, e148_30, e148_31, e148_34, e148_36, e148_37, e148_38, true_or, or_true, true_and, and_true, Option.toList, List.cons_append, List.nil_append, if_true, if_false, reduceIte, sk50, sk63, sr50_26, sr50_27, sk64, sn64, wI_get, upd_get, Nat.reduceEqDiff, reduceIte, if_true, if_false, hag 50 (by decide), c101, hin, bI_0, Bool.true_eq_false, ein, ecl, hag 64 (by decide), k3a, hb, e16]
    rw [c131 (c := 63) (a := 0) (n := 32) sk63 sn63 (by decide) (by decide) (by decide) (by decide)]
    have ein2 : ab_in (nI 9) 32 = True := eq_true (in_nI (j := 9) (n := 32) (by decide) (by decide))
    have ecl2 : (nI 9).toNatClampNeg = 9 := by decide
    simp only [Nat.mul_zero, Nat.mul_one, Nat.zero_add, Nat.reduceAdd, Nat.reduceMul] at d4 d5 d6 d7 d2
    simp only [Nat.reduceAdd, Nat.zero_add, e148_0, e148_1, e148_2, e148_5, e148_6, e148_7, e148_8, e148_9, e148_12, e148_15, e148_16, e148_17, e148_18, e148_21, e148_22, e148_23, e148_26, e148_28, e148_29, e148_30, e148_31, e148_34, e148_36, e148_37, e148_38, e148_41, e148_42, e148_43, e148_46, e148_48, e148_49, e148_50, e148_52, e148_53, e148_54, e148_57, e148_58, e148_59, e148_62, e148_63, e148_66, e148_69, true_or, or_true, true_and, and_true, Option.toList, List.cons_append, List.nil_append, if_true, if_false, reduceIte, sk50, sk63, sn63, sr50_26, wI_get, upd_get, Nat.reduceEqDiff, reduceIte, if_true, if_false, hag 50 (by decide), hag 52 (by decide), hag 63 (by decide), e16, e25, ein2, ecl2, d4, d5, d6, d7, c129 hth6, wI_wI]
    refine ⟨tn, tx, t, kf, kth, ksd, kla, klw, ⟨h1, iTx_ag h2 ?_ ?_, tdV_ag h3 ?_, mdV_ag h4 ?_ ?_, nok_up (by omega) d1, ?_, ?_⟩, ⟨0, fi, hw, fun _ => kf, hth, hsd, hla, ?_⟩, ks, iKp_ag (by omega) hk ?_⟩
    · repeat (first | exact ag_sub hag (by decide) | refine ag_w ?_ (by decide))
    · intro j hj; simp only [List.mem_cons, List.not_mem_nil, or_false] at hj; subst hj; simp only [wI_get, upd_get, Nat.reduceEqDiff, reduceIte, if_true, if_false]
    · repeat (first | exact ag_sub hag (by decide) | refine ag_w ?_ (by decide))
    · repeat (first | exact ag_sub hag (by decide) | refine ag_w ?_ (by decide))
    · intro j hj; simp only [List.mem_cons, List.not_mem_nil, or_false] at hj; rcases hj with rfl | rfl <;> simp only [wI_get, upd_get, Nat.reduceEqDiff, reduceIte, if_true, if_false]
    · have e17 : ς.1 17 = cpN 6 (σ.1 28) (σ.1 17) := by rw [← hς]; simp only [wI_get, upd_get, Nat.reduceEqDiff, reduceIte, if_true, if_false]
      have e16c : ς.1 16 = upd (upd (upd (upd (σ.1 16) 1 (σ.1 27 1)) 2 (σ.1 27 2)) 3 (σ.1 27 3)) 4 (σ.1 27 4) := by rw [← hς]; simp only [wI_get, upd_get, Nat.reduceEqDiff, reduceIte, if_true, if_false]
      refine ⟨fun q hq => ⟨?_, ?_⟩, ?_, ?_, ?_, ?_, ?_, ?_, ?_, ?_⟩
      · simp only [wI_get, upd_get, Nat.reduceEqDiff, reduceIte, if_true, if_false, e17]; rw [cp6 (by omega)]; exact (d2 q hq).1
      · simp only [wI_get, upd_get, Nat.reduceEqDiff, reduceIte, if_true, if_false]; rw [cp6 (by omega)]; simpa using (d2 q hq).2
      · simp only [wI_get, upd_get, Nat.reduceEqDiff, reduceIte, if_true, if_false, e16c]; exact d3a
      · simp only [wI_get, upd_get, Nat.reduceEqDiff, reduceIte, if_true, if_false]
      · simp only [wI_get, upd_get, Nat.reduceEqDiff, reduceIte, if_true, if_false, e16c]; exact d3b
      · simp only [wI_get, upd_get, Nat.reduceEqDiff, reduceIte, if_true, if_false]
      · simp only [wI_get, upd_get, Nat.reduceEqDiff, reduceIte, if_true, if_false, e16c]; exact d3c
      · simp only [wI_get, upd_get, Nat.reduceEqDiff, reduceIte, if_true, if_false]
      · simp only [wI_get, upd_get, Nat.reduceEqDiff, reduceIte, if_true, if_false, e16c]; exact d3d
      · simp only [wI_get, upd_get, Nat.reduceEqDiff, reduceIte, if_true, if_false]
    · simp only [wI_get, upd_get, Nat.reduceEqDiff, reduceIte, if_true, if_false, hag 9 (by decide)]; exact h7
    · have e20 : ς.1 20 = upd (σ.1 20) 6 0 := by rw [← hς]; simp only [wI_get, upd_get, Nat.reduceEqDiff, reduceIte, if_true, if_false]
      refine ⟨by decide, ha.2.1, ?_, ?_, ?_, fun i hi => by omega, fun q hq => rfl, fun i hi => by omega⟩
      · simp only [wI_get, upd_get, Nat.reduceEqDiff, reduceIte, if_true, if_false, e20]; exact ha.2.2.1
      · simp only [wI_get, upd_get, Nat.reduceEqDiff, reduceIte, if_true, if_false, e20]; rfl
      · simp only [wI_get, upd_get, Nat.reduceEqDiff, reduceIte, if_true, if_false]; rfl
    · repeat (first | exact ag_sub hag (by decide) | refine ag_w ?_ (by decide))
set_option maxHeartbeats 8000000 in
theorem op_again1 {B : Nat} {σ : ab_St} (hI : Inv B σ) : op2 B σ 98 [some (.ref 0), some (.int 1)] 148 [some (.ref 50), some (.int 1)] := by
  obtain ⟨tn, tx, t, f, th, sd, la, lw, h, ⟨ac, fi, hw, hf, hth, hsd, hla, ha⟩, ks, hk⟩ := id hI
  obtain ⟨h1, h2, h3, h4, h5, h6, h7⟩ := id h
  have hP := h1.1
  obtain ⟨k1, k2, ⟨k3a, k3b⟩, k4, k5⟩ := id hk
  have s0 : sam σ (ab_wI σ 50 (upd (σ.1 50) 0 0)) := sam_50 (by decide)
  have n1 : ((1 : Int32) < 0) = False := eq_false (by decide)
  have n2 : ((1 : Int32) < 2) = True := eq_true (by decide)
  have ein : ab_in (1 : Int32) 2 = True := eq_true (in_nI (j := 1) (n := 2) (by decide) (by decide))
  have ecl : (1 : Int32).toNatClampNeg = 1 := rfl
  have hin : decide ((0 : Int64) ≤ (1 : Int32).toInt64 ∧ (1 : Int32).toInt64 ≤ 1) = true := by decide
  have c32' := fun Q => c32 (d := 7) (s := ks) (k := 1) (σ := σ) (Q := Q) (by omega) (by decide)
  rw [show nI 1 = (1 : Int32) from rfl] at c32'
  cases hb : ks.testBit 1
  · refine op2_q (.int (-3)) hI ?_
    simp only [e98_0, e98_1, e98_4, e98_5, e98_6, e98_9, e98_10, e98_11, e98_12, e98_15, e98_16, e98_19, e98_22, e98_24, e98_25, e98_26, e98_29, e98_30, e98_33, e98_34, e98_35, e98_38, e98_39, e98_42, e98_45, e98_46, e98_49, e98_52, true_or, or_true, true_and, and_true, Option.toList, List.cons_append, List.nil_append, if_true, if_false, reduceIte, n1, n2, sk0, k2, c32', hb, bI_0]
    refine ⟨sam_rf σ, ?_⟩
    simp only [e148_0, e148_1, e148_2, e148_5, e148_6, e148_7, e148_8, e148_9, e148_12, e148_15, e148_16, e148_17, e148_18, e148_21, e148_22, e148_23, e148_26, e148_28, e148_29, e148_30, e148_31, e148_34, e148_36, e148_37, e148_38, e148_41, e148_42, e148_43, e148_46, e148_48, e148_49, e148_50, e148_52, e148_53, e148_54, e148_57, e148_58, e148_59, e148_62, e148_63, e148_66, e148_69, true_or, or_true, true_and, and_true, Option.toList, List.cons_append, List.nil_append, if_true, if_false, reduceIte, sk50, sr50_27, sk64, sn64, wI_get, upd_get, Nat.reduceEqDiff, reduceIte, if_true, if_false, c101, hin, bI_0, Bool.true_eq_false, ein, ecl, k3b, hb]
    exact s0
  · obtain ⟨kf, kth, ksd, kla, klw, d1, d2, ⟨d3a, d3b, d3c, d3d⟩, d4, d5, d6, d7⟩ := k5 hb
    have hth6 : kth < 64 := by have := two_le _ h1.1; have := d1.1; omega
    refine op2_v (.int (nI (cnt kth 6))) ?_
    have c35' := fun Q => c35 (d := 6) (c := 16) (w := 17) (c2 := 29) (w2 := 30) (σ := σ) (Q := Q) sk16 sk29 rfl rfl sk17 sk30 sn17 sn30 (by decide)
    simp only [e98_0, e98_1, e98_4, e98_5, e98_6, e98_9, e98_10, e98_11, e98_12, e98_15, e98_16, e98_19, e98_22, e98_24, e98_25, e98_26, e98_29, e98_30, e98_33, e98_34, e98_35, e98_38, e98_39, e98_42, e98_45, e98_46, e98_49, e98_52, true_or, or_true, true_and, and_true, Option.toList, List.cons_append, List.nil_append, if_true, if_false, reduceIte, n1, n2, sk0, sr0_6, sr0_3, sr0_5, sk20, sk26, sn26, ein, ecl, sr26_1, sk29, sk16, k2, c32', hb, bI_0, Bool.true_eq_false, c35', c36 (d := 7) (c := 20) sk20, wI_get, upd_get, Nat.reduceEqDiff, reduceIte, if_true, if_false]
    rw [c53 (d := 6) (th := kth) sk16 (by simp only [wI_get, upd_get, Nat.reduceEqDiff, reduceIte, if_true, if_false]; exact d3a) hth6]
    simp only [e98_0, e98_1, e98_4, e98_5, e98_6, e98_9, e98_10, e98_11, e98_12, e98_15, e98_16, e98_19, e98_22, e98_24, e98_25, e98_26, e98_29, e98_30, e98_33, e98_34, e98_35, e98_38, e98_39, e98_42, e98_45, e98_46, e98_49, e98_52, true_or, or_true, true_and, and_true, Option.toList, List.cons_append, List.nil_append, if_true, if_false, reduceIte]
    generalize hς : ab_wI (ab_wI (ab_wI σ 17 (cpN 6 (σ.1 30) (σ.1 17))) 16 (upd (upd (upd (upd (σ.1 16) 1 (σ.1 29 1)) 2 (σ.1 29 2)) 3 (σ.1 29 3)) 4 (σ.1 29 4))) 20 (upd (σ.1 20) 6 0) = ς
    have hag : ag [0, 1, 2, 9, 11, 12, 13, 14, 15, 21, 22, 23, 24, 25, 27, 28, 29, 30, 50, 51, 52, 53, 54, 55, 56, 62, 63, 64] σ ς := by
      rw [← hς]
      exact ag_w (ag_w (ag_w (ag_rf _ _) (by decide)) (by decide)) (by decide)
    have e16 : (16 : Int32) * 1 = nI 16 := by decide
    have e25 : nI 16 + 9 = nI 25 := by decide
    simp only [e148_0, e148_1, e148_2, e148_5, e148_6, e148_7, e148_8, e148_9, e148_12, e148_17, e148_18, e148_21, e148_22, e148_23, e148_29, e148_30, e148_31, e148_34, e148_36, e148_37, e148_38, true_or, or_true, true_and, and_true, Option.toList, List.cons_append, List.nil_append, if_true, if_false, reduceIte, sk50, sk63, sr50_26, sr50_27, sk64, sn64, wI_get, upd_get, Nat.reduceEqDiff, reduceIte, if_true, if_false, hag 50 (by decide), c101, hin, bI_0, Bool.true_eq_false, ein, ecl, hag 64 (by decide), k3b, hb, e16]
    rw [c131 (c := 63) (a := 16) (n := 32) sk63 sn63 (by decide) (by decide) (by decide) (by decide)]
    have ein2 : ab_in (nI 25) 32 = True := eq_true (in_nI (j := 25) (n := 32) (by decide) (by decide))
    have ecl2 : (nI 25).toNatClampNeg = 25 := by decide
    simp only [Nat.mul_zero, Nat.mul_one, Nat.zero_add, Nat.reduceAdd, Nat.reduceMul] at d4 d5 d6 d7 d2
    simp only [Nat.reduceAdd, Nat.zero_add, e148_0, e148_1, e148_2, e148_5, e148_6, e148_7, e148_8, e148_9, e148_12, e148_15, e148_16, e148_17, e148_18, e148_21, e148_22, e148_23, e148_26, e148_28, e148_29, e148_30, e148_31, e148_34, e148_36, e148_37, e148_38, e148_41, e148_42, e148_43, e148_46, e148_48, e148_49, e148_50, e148_52, e148_53, e148_54, e148_57, e148_58, e148_59, e148_62, e148_63, e148_66, e148_69, true_or, or_true, true_and, and_true, Option.toList, List.cons_append, List.nil_append, if_true, if_false, reduceIte, sk50, sk63, sn63, sr50_26, wI_get, upd_get, Nat.reduceEqDiff, reduceIte, if_true, if_false, hag 50 (by decide), hag 52 (by decide), hag 63 (by decide), e16, e25, ein2, ecl2, d4, d5, d6, d7, c129 hth6, wI_wI]
    refine ⟨tn, tx, t, kf, kth, ksd, kla, klw, ⟨h1, iTx_ag h2 ?_ ?_, tdV_ag h3 ?_, mdV_ag h4 ?_ ?_, nok_up (by omega) d1, ?_, ?_⟩, ⟨0, fi, hw, fun _ => kf, hth, hsd, hla, ?_⟩, ks, iKp_ag (by omega) hk ?_⟩
    · repeat (first | exact ag_sub hag (by decide) | refine ag_w ?_ (by decide))
    · intro j hj; simp only [List.mem_cons, List.not_mem_nil, or_false] at hj; subst hj; simp only [wI_get, upd_get, Nat.reduceEqDiff, reduceIte, if_true, if_false]
    · repeat (first | exact ag_sub hag (by decide) | refine ag_w ?_ (by decide))
    · repeat (first | exact ag_sub hag (by decide) | refine ag_w ?_ (by decide))
    · intro j hj; simp only [List.mem_cons, List.not_mem_nil, or_false] at hj; rcases hj with rfl | rfl <;> simp only [wI_get, upd_get, Nat.reduceEqDiff, reduceIte, if_true, if_false]
    · have e17 : ς.1 17 = cpN 6 (σ.1 30) (σ.1 17) := by rw [← hς]; simp only [wI_get, upd_get, Nat.reduceEqDiff, reduceIte, if_true, if_false]
      have e16c : ς.1 16 = upd (upd (upd (upd (σ.1 16) 1 (σ.1 29 1)) 2 (σ.1 29 2)) 3 (σ.1 29 3)) 4 (σ.1 29 4) := by rw [← hς]; simp only [wI_get, upd_get, Nat.reduceEqDiff, reduceIte, if_true, if_false]
      refine ⟨fun q hq => ⟨?_, ?_⟩, ?_, ?_, ?_, ?_, ?_, ?_, ?_, ?_⟩
      · simp only [wI_get, upd_get, Nat.reduceEqDiff, reduceIte, if_true, if_false, e17]; rw [cp6 (by omega)]; exact (d2 q hq).1
      · simp only [wI_get, upd_get, Nat.reduceEqDiff, reduceIte, if_true, if_false]; rw [cp6 (by omega)]; exact (d2 q hq).2
      · simp only [wI_get, upd_get, Nat.reduceEqDiff, reduceIte, if_true, if_false, e16c]; exact d3a
      · simp only [wI_get, upd_get, Nat.reduceEqDiff, reduceIte, if_true, if_false]
      · simp only [wI_get, upd_get, Nat.reduceEqDiff, reduceIte, if_true, if_false, e16c]; exact d3b
      · simp only [wI_get, upd_get, Nat.reduceEqDiff, reduceIte, if_true, if_false]
      · simp only [wI_get, upd_get, Nat.reduceEqDiff, reduceIte, if_true, if_false, e16c]; exact d3c
      · simp only [wI_get, upd_get, Nat.reduceEqDiff, reduceIte, if_true, if_false]
      · simp only [wI_get, upd_get, Nat.reduceEqDiff, reduceIte, if_true, if_false, e16c]; exact d3d
      · simp only [wI_get, upd_get, Nat.reduceEqDiff, reduceIte, if_true, if_false]
    · simp only [wI_get, upd_get, Nat.reduceEqDiff, reduceIte, if_true, if_false, hag 9 (by decide)]; exact h7
    · have e20 : ς.1 20 = upd (σ.1 20) 6 0 := by rw [← hς]; simp only [wI_get, upd_get, Nat.reduceEqDiff, reduceIte, if_true, if_false]
      refine ⟨by decide, ha.2.1, ?_, ?_, ?_, fun i hi => by omega, fun q hq => rfl, fun i hi => by omega⟩
      · simp only [wI_get, upd_get, Nat.reduceEqDiff, reduceIte, if_true, if_false, e20]; exact ha.2.2.1
      · simp only [wI_get, upd_get, Nat.reduceEqDiff, reduceIte, if_true, if_false, e20]; rfl
      · simp only [wI_get, upd_get, Nat.reduceEqDiff, reduceIte, if_true, if_false]; rfl
    · repeat (first | exact ag_sub hag (by decide) | refine ag_w ?_ (by decide))
set_option maxHeartbeats 4000000 in
theorem op_keep {B : Nat} {σ : ab_St} {x : Int32} (hI : Inv B σ) : op2 B σ 97 [some (.ref 0), some (.int x)] 147 [some (.ref 50), some (.int x)] := by
  by_cases hx : inR x 2 = true
  · obtain ⟨s, hs, rfl⟩ := inR_of hx (by decide)
    match s, hs with
    | 0, _ => exact op_keep0 hI
    | 1, _ => exact op_keep1 hI
  · have hx : inR x 2 = false := by simpa using hx
    have s0 : sam σ (ab_wI σ 50 (upd (σ.1 50) 0 0)) := sam_50 (by decide)
    refine op2_q (.int (-1)) hI ?_
    have hx2 : x.toInt < 0 ∨ 2 ≤ x.toInt := by
      unfold inR at hx
      have := of_decide_eq_false hx
      omega
    have key : Ev 8 147 0 [some (.ref 50), some (.int x)] [] σ (fun r σ2 => r = some (.int (-1)) ∧ sam σ σ2) := by
      simp only [e147_0, e147_1, e147_2, e147_5, e147_6, e147_7, e147_8, e147_9, e147_12, e147_15, e147_16, e147_17, e147_18, e147_21, e147_22, e147_23, e147_24, e147_25, e147_26, e147_29, e147_31, e147_32, e147_33, e147_36, e147_37, e147_40, e147_42, e147_43, e147_44, e147_46, e147_47, e147_48, e147_51, e147_52, e147_53, e147_56, e147_59, true_or, or_true, true_and, and_true, Option.toList, List.cons_append, List.nil_append, if_true, if_false, reduceIte, sk50, c101, slot_in, hx, bI_0]
      exact s0
    simp only [e97_0, e97_1, e97_4, e97_5, e97_6, e97_9, e97_10, e97_11, e97_12, e97_15, e97_16, e97_17, e97_18, e97_21, e97_24, e97_25, e97_26, e97_29, e97_30, e97_31, e97_32, e97_33, e97_36, e97_37, e97_40, e97_43, true_or, or_true, true_and, and_true, Option.toList, List.cons_append, List.nil_append, if_true, if_false, reduceIte, lt_lit, ti2, ti0]
    by_cases z : x.toInt < 0
    · rw [if_pos z]; exact ⟨sam_rf σ, key⟩
    · rw [if_neg z, if_neg (by omega)]; exact ⟨sam_rf σ, key⟩
set_option maxHeartbeats 4000000 in
theorem op_again {B : Nat} {σ : ab_St} {x : Int32} (hI : Inv B σ) : op2 B σ 98 [some (.ref 0), some (.int x)] 148 [some (.ref 50), some (.int x)] := by
  by_cases hx : inR x 2 = true
  · obtain ⟨s, hs, rfl⟩ := inR_of hx (by decide)
    match s, hs with
    | 0, _ => exact op_again0 hI
    | 1, _ => exact op_again1 hI
  · have hx : inR x 2 = false := by simpa using hx
    have s0 : sam σ (ab_wI σ 50 (upd (σ.1 50) 0 0)) := sam_50 (by decide)
    refine op2_q (.int (-1)) hI ?_
    have hx2 : x.toInt < 0 ∨ 2 ≤ x.toInt := by
      unfold inR at hx
      have := of_decide_eq_false hx
      omega
    have key : Ev 8 148 0 [some (.ref 50), some (.int x)] [] σ (fun r σ2 => r = some (.int (-1)) ∧ sam σ σ2) := by
      simp only [e148_0, e148_1, e148_2, e148_5, e148_6, e148_7, e148_8, e148_9, e148_12, e148_15, e148_16, e148_17, e148_18, e148_21, e148_22, e148_23, e148_26, e148_28, e148_29, e148_30, e148_31, e148_34, e148_36, e148_37, e148_38, e148_41, e148_42, e148_43, e148_46, e148_48, e148_49, e148_50, e148_52, e148_53, e148_54, e148_57, e148_58, e148_59, e148_62, e148_63, e148_66, e148_69, true_or, or_true, true_and, and_true, Option.toList, List.cons_append, List.nil_append, if_true, if_false, reduceIte, sk50, c101, slot_in, hx, bI_0]
      exact s0
    simp only [e98_0, e98_1, e98_4, e98_5, e98_6, e98_9, e98_10, e98_11, e98_12, e98_15, e98_16, e98_19, e98_22, e98_24, e98_25, e98_26, e98_29, e98_30, e98_33, e98_34, e98_35, e98_38, e98_39, e98_42, e98_45, e98_46, e98_49, e98_52, true_or, or_true, true_and, and_true, Option.toList, List.cons_append, List.nil_append, if_true, if_false, reduceIte, lt_lit, ti2, ti0]
    by_cases z : x.toInt < 0
    · rw [if_pos z]; exact ⟨sam_rf σ, key⟩
    · rw [if_neg z, if_neg (by omega)]; exact ⟨sam_rf σ, key⟩
