/-! WRITE -/
/-- a byte of v -/
def byt (v : Int64) (k : Nat) : Nat := ((v >>> ((8 * nI k : Int32).toInt64 &&& 63)).toInt32 &&& 255).toBitVec.toNat
theorem byt_lt (v : Int64) (k : Nat) : byt v k < 256 := by
  unfold byt
  rw [Int32.toBitVec_and, BitVec.toNat_and]
  exact Nat.lt_of_le_of_lt Nat.and_le_right (by decide)
theorem byt_nI (v : Int64) (k : Nat) : (v >>> ((8 * nI k : Int32).toInt64 &&& 63)).toInt32 &&& 255 = nI (byt v k) := nI_ext rfl (by have := byt_lt v k; omega)
theorem byt_s1 : ∀ k : Fin 8, ((BitVec.signExtend 64 (8#32 * (nI k.val).toBitVec)).toNat &&& 63) % 64 = 8 * k.val := by decide +kernel
theorem byt_s2 : ∀ k : Fin 8, ((BitVec.signExtend 64 (8#32 * (nI k.val).toBitVec) &&& 63#64).smod 64#64).toNat = 8 * k.val := by decide +kernel
theorem ff_bit : ∀ j : Fin 8, (255#8).getLsbD j.val = true := by decide
theorem byt_b (v : Int64) (k : Fin 8) : (v.toUInt64 >>> ((8 * nI k.val : Int32).toInt64.toUInt64 &&& Int64.toUInt64 63)).toInt64.toInt32.toInt8 = (nI (byt v k.val)).toInt8 := by
  rw [← byt_nI]
  apply Int8.toBitVec_inj.mp
  apply BitVec.eq_of_getLsbD_eq
  intro j hj
  have h1 := byt_s1 k
  have h2 := byt_s2 k
  have h3 := ff_bit ⟨j, hj⟩
  have hk := k.isLt
  simp
  rw [h1, h2, h3, Bool.and_true, BitVec.getLsbD_signExtend, BitVec.getLsbD_signExtend, BitVec.getLsbD_ushiftRight, BitVec.getLsbD_sshiftRight]
  simp [hj, show j < 64 by omega, show 8 * k.val + j < 64 by omega, show ¬ 64 ≤ j by omega]
/-- what is left to write at the j-th of n -/
def wiv (n j : Nat) : Int32 := if j < n then nI (n - 1 - j) else -1
theorem wiv_s {n j : Nat} (h : j < n) : wiv n j + (-1) = wiv n (j + 1) := by
  unfold wiv
  rw [if_pos h]
  by_cases h2 : j + 1 < n
  · rw [if_pos h2, show n - 1 - j = (n - 1 - (j + 1)) + 1 by omega, pk_m1]
  · rw [if_neg h2, show n - 1 - j = 0 by omega]
    rfl
theorem nar_b (x : Int32) : vp_nar .byte x.toInt8.toInt32 = x.toInt8.toInt32 := pk_vb x
/-- the bytes that come -/
def wrS (v : Int64) (n tn : Nat) (g : Nat → Int32) (i : Nat) (k : Nat → Int32) : Nat → Int32 := upd k (tn + i) ((nI (byt v (n - 1 - i))).toInt8.toInt32)
def wrM (v : Int64) (n tn : Nat) (i : Nat) (k : Nat → Int32) : Nat → Int32 := upd k (tn + i) (nI (byt v (n - 1 - i)))
theorem wrM_at (v : Int64) (n tn : Nat) (g : Nat → Int32) (m j : Nat) : itn (wrM v n tn) m g j = if tn ≤ j ∧ j < tn + m then nI (byt v (n - 1 - (j - tn))) else g j := by
  induction m with
  | zero => simp [itn]; intro h1 h2; omega
  | succ m ih =>
    show (if j = tn + m then nI (byt v (n - 1 - m)) else itn (wrM v n tn) m g j) = _
    by_cases e : j = tn + m
    · subst e
      rw [if_pos rfl, if_pos (by omega), show tn + m - tn = m by omega]
    · rw [if_neg e, ih]
      by_cases h : tn ≤ j ∧ j < tn + m
      · rw [if_pos h, if_pos (by omega)]
      · rw [if_neg h, if_neg (by omega)]
theorem wrS_at (v : Int64) (n tn : Nat) (g0 g : Nat → Int32) (m j : Nat) : itn (wrS v n tn g0) m g j = if tn ≤ j ∧ j < tn + m then (nI (byt v (n - 1 - (j - tn)))).toInt8.toInt32 else g j := by
  induction m with
  | zero => simp [itn]; intro h1 h2; omega
  | succ m ih =>
    show (if j = tn + m then (nI (byt v (n - 1 - m))).toInt8.toInt32 else itn (wrS v n tn g0) m g j) = _
    by_cases e : j = tn + m
    · subst e
      rw [if_pos rfl, if_pos (by omega), show tn + m - tn = m by omega]
    · rw [if_neg e, ih]
      by_cases h : tn ≤ j ∧ j < tn + m
      · rw [if_pos h, if_pos (by omega)]
      · rw [if_neg h, if_neg (by omega)]
set_option maxHeartbeats 4000000 in
/-- Text.append -/
theorem c12 {d n tn : Nat} {v : Int64} {σ : ab_St} {Q : Option Value → ab_St → Prop} (hn : n ≤ 8) (hn1 : 1 ≤ n) (ht : tn + n ≤ 64) (v1 : σ.1 1 1 = nI tn) : Ev d 12 0 [some (.ref 1), some (.int (nI n)), some (.long v), none, none] [] σ Q = Q none (ab_wI (ab_wI σ 2 (itn (wrS v n tn (σ.1 2)) n (σ.1 2))) 1 (upd (σ.1 1) 1 (nI (tn + n)))) := by
  have hs : nI n - 1 = wiv n 0 := by unfold wiv; rw [if_pos (by omega)]; exact pk_sub (a := n) (b := 1) hn1
  simp only [e12_0, e12_1, e12_2, e12_3, hs]
  have hst : σ = ab_wI (ab_wI σ 2 (σ.1 2)) 1 (upd (σ.1 1) 1 (nI (tn + 0))) := by
    rw [wI_self]
    have : upd (σ.1 1) 1 (nI (tn + 0)) = σ.1 1 := by
      funext j
      unfold upd
      split
      next e => rw [e, v1]; rfl
      next => rfl
    rw [this, wI_self]
  refine (congrArg (fun τ => Ev d 12 5 [some (.ref 1), some (.int (nI n)), some (.long v), none, some (.int (wiv n 0))] [] τ Q) hst).trans ?_
  refine (ev_for (fun i (g : Nat → Int32) => Ev d 12 5 [some (.ref 1), some (.int (nI n)), some (.long v), none, some (.int (wiv n i))] [] (ab_wI (ab_wI σ 2 g) 1 (upd (σ.1 1) 1 (nI (tn + i)))) Q) (wrS v n tn (σ.1 2)) (σ.1 2) n ?_).trans ?_
  · intro i hi
    generalize itn (wrS v n tn (σ.1 2)) i (σ.1 2) = g
    rw [e12_5]
    have e1 : (wiv n i < 0) = False := eq_false (by unfold wiv; rw [if_pos hi]; exact nI_pos (by omega))
    have e2 : ((64 : Int32) ≤ nI (tn + i)) = False := eq_false (nI_ge (a := tn + i) (b := 64) (by omega) (by decide))
    have e3 : wiv n i = nI (n - 1 - i) := by unfold wiv; rw [if_pos hi]
    have e4 := byt_b v ⟨n - 1 - i, by omega⟩
    dsimp only at e4
    rw [← e3] at e4
    have hcm : ∀ g' h, ab_wI (ab_wI (ab_wI σ 2 g) 1 h) 2 g' = ab_wI (ab_wI σ 2 g') 1 h := fun g' h => by rw [wI_comm _ _ _ (by decide), wI_wI]
    simp only [e12_0, e12_1, e12_2, e12_3, e12_7, e12_10, e12_11, e12_14, e12_16, e12_19, e12_20, e12_23, e12_24, e12_27, e12_28, e12_30, e12_32, e12_33, e12_34, e12_35, e12_36, e12_37, e12_38, e12_39, e12_42, e12_43, e12_44, e12_47, e12_50, e12_53, true_or, or_true, true_and, and_true, Option.toList, List.cons_append, List.nil_append, if_true, if_false, reduceIte, sk1, sr1_0, sk2, sn2, e1, e2, wI_get, upd_get, Nat.reduceEqDiff, reduceIte, if_true, if_false, in_eq (j := tn + i) (n := 64) (by omega) (by decide), nI_clamp (n := tn + i) (by omega), wiv_s hi, e4, nar_b, nI_1, hcm, wI_wI, upd_upd]
    rfl
  · rw [e12_5]
    have e1 : wiv n n < 0 := by unfold wiv; rw [if_neg (by omega)]; decide
    simp only [e12_0, e12_1, e12_2, e12_3, e12_7, e12_10, e12_11, e12_14, e12_16, e12_19, e12_20, e12_23, e12_24, e12_27, e12_28, e12_30, e12_32, e12_33, e12_34, e12_35, e12_36, e12_37, e12_38, e12_39, e12_42, e12_43, e12_44, e12_47, e12_50, e12_53, true_or, or_true, true_and, and_true, Option.toList, List.cons_append, List.nil_append, if_true, if_false, reduceIte, e1]
set_option maxHeartbeats 4000000 in
/-- the model's write, from its loop on -/
theorem c100b {n tn : Nat} {x : Int32} {v : Int64} {σ : ab_St} {Q : Option Value → ab_St → Prop} (hn : n ≤ 8) (hn1 : 1 ≤ n) (ht : tn + n ≤ 64) (v1 : σ.1 50 2 = nI tn) : Ev 8 100 39 [some (.ref 50), some (.int x), some (.long v), none, some (.int (wiv n 0))] [] σ Q = Q (some (.int (nI (tn + n)))) (ab_wI (ab_wI σ 51 (itn (wrM v n tn) n (σ.1 51))) 50 (upd (σ.1 50) 2 (nI (tn + n)))) := by
  have hst : σ = ab_wI (ab_wI σ 51 (σ.1 51)) 50 (upd (σ.1 50) 2 (nI (tn + 0))) := by
    rw [wI_self]
    have : upd (σ.1 50) 2 (nI (tn + 0)) = σ.1 50 := by
      funext j
      unfold upd
      split
      next e => rw [e, v1]; rfl
      next => rfl
    rw [this, wI_self]
  refine (congrArg (fun τ => Ev 8 100 39 [some (.ref 50), some (.int x), some (.long v), none, some (.int (wiv n 0))] [] τ Q) hst).trans ?_
  refine (ev_for (fun i (g : Nat → Int32) => Ev 8 100 39 [some (.ref 50), some (.int x), some (.long v), none, some (.int (wiv n i))] [] (ab_wI (ab_wI σ 51 g) 50 (upd (σ.1 50) 2 (nI (tn + i)))) Q) (wrM v n tn) (σ.1 51) n ?_).trans ?_
  · intro i hi
    generalize itn (wrM v n tn) i (σ.1 51) = g
    rw [e100_39]
    have e1 : (wiv n i < 0) = False := eq_false (by unfold wiv; rw [if_pos hi]; exact nI_pos (by omega))
    have e3 : wiv n i = nI (n - 1 - i) := by unfold wiv; rw [if_pos hi]
    have e4 := byt_nI v (n - 1 - i)
    rw [← e3] at e4
    have hcm : ∀ g' h, ab_wI (ab_wI (ab_wI σ 51 g) 50 h) 51 g' = ab_wI (ab_wI σ 51 g') 50 h := fun g' h => by rw [wI_comm _ _ _ (by decide), wI_wI]
    simp only [e100_0, e100_1, e100_2, e100_5, e100_6, e100_7, e100_8, e100_11, e100_14, e100_17, e100_19, e100_20, e100_21, e100_24, e100_25, e100_26, e100_28, e100_31, e100_33, e100_34, e100_35, e100_36, e100_37, e100_41, e100_44, e100_45, e100_48, e100_49, e100_52, e100_53, e100_55, e100_57, e100_58, e100_59, e100_60, e100_63, e100_64, e100_65, e100_66, e100_67, e100_70, e100_71, e100_72, e100_75, e100_78, e100_81, e100_82, e100_85, true_or, or_true, true_and, and_true, Option.toList, List.cons_append, List.nil_append, if_true, if_false, reduceIte, sk50, sr50_1, sk51, sn51, e1, wI_get, upd_get, Nat.reduceEqDiff, reduceIte, if_true, if_false, in_eq (j := tn + i) (n := 64) (by omega) (by decide), nI_clamp (n := tn + i) (by omega), wiv_s hi, e4, nI_1, hcm, wI_wI, upd_upd]
    rfl
  · rw [e100_39]
    have e1 : wiv n n < 0 := by unfold wiv; rw [if_neg (by omega)]; decide
    simp only [e100_0, e100_1, e100_2, e100_5, e100_6, e100_7, e100_8, e100_11, e100_14, e100_17, e100_19, e100_20, e100_21, e100_24, e100_25, e100_26, e100_28, e100_31, e100_33, e100_34, e100_35, e100_36, e100_37, e100_41, e100_44, e100_45, e100_48, e100_49, e100_52, e100_53, e100_55, e100_57, e100_58, e100_59, e100_60, e100_63, e100_64, e100_65, e100_66, e100_67, e100_70, e100_71, e100_72, e100_75, e100_78, e100_81, e100_82, e100_85, true_or, or_true, true_and, and_true, Option.toList, List.cons_append, List.nil_append, if_true, if_false, reduceIte, e1, sk50, wI_get, upd_get, Nat.reduceEqDiff, reduceIte, if_true, if_false]
theorem in18 (x : Int32) : decide ((1 : Int64) ≤ x.toInt64 ∧ x.toInt64 ≤ 8) = decide (1 ≤ x.toInt ∧ x.toInt ≤ 8) := by
  congr 1
  apply propext
  rw [Int64.le_iff_toInt_le, Int64.le_iff_toInt_le, Int32.toInt_toInt64]
  exact Iff.rfl
theorem ti8 : (8 : Int32).toInt = 8 := rfl
theorem ti64 : (64 : Int32).toInt = 64 := rfl
set_option maxHeartbeats 8000000 in
theorem op_write {B : Nat} {σ : ab_St} {x : Int32} {v : Int64} (hI : Inv B σ) : op2 B σ 11 [some (.ref 0), some (.int x), some (.long v), none] 100 [some (.ref 50), some (.int x), some (.long v), none, none] := by
  obtain ⟨tn, tx, t, f, th, sd, la, lw, h, ⟨ac, fi, hw, hf, hth, hsd, hla, ha⟩, ks, hk⟩ := id hI
  obtain ⟨h1, h2, h3, h4, h5, h6, h7⟩ := id h
  obtain ⟨x1, x2, x3, x4⟩ := id h2
  have s0 : sam σ (ab_wI σ 50 (upd (σ.1 50) 0 0)) := sam_50 (by decide)
  by_cases hx : 1 ≤ x.toInt ∧ x.toInt ≤ 8
  · obtain ⟨n, hn8, rfl⟩ : ∃ k : Nat, k ≤ 8 ∧ x = nI k := by
      obtain ⟨k, hk1, hk2⟩ := inR_of (x := x) (n := 9) (by unfold inR; exact decide_eq_true (by omega)) (by decide)
      exact ⟨k, by omega, hk2⟩
    have hn1 : 1 ≤ n := by rw [nI_toInt (by omega)] at hx; omega
    have e1 : (nI n < (1 : Int32)) = False := eq_false (by rw [lt_lit, ti1]; omega)
    have e2 : (nI n ≤ (8 : Int32)) = True := eq_true (by rw [le_lit, ti8]; omega)
    have e3 : decide (1 ≤ (nI n).toInt ∧ (nI n).toInt ≤ 8) = true := decide_eq_true hx
    by_cases hf64 : tn + n ≤ 64
    · have e4 : (nI (tn + n) ≤ (64 : Int32)) = True := eq_true (nI_le (a := tn + n) (b := 64) hf64 (by decide))
      refine op2_v (.int (nI (tn + n))) ?_
      simp only [e11_0, e11_1, e11_2, e11_5, e11_6, e11_8, e11_11, e11_13, e11_14, e11_15, e11_18, e11_21, e11_22, e11_23, e11_25, e11_28, e11_30, e11_31, e11_32, e11_35, e11_36, e11_37, e11_40, e11_41, e11_44, e11_47, true_or, or_true, true_and, and_true, Option.toList, List.cons_append, List.nil_append, if_true, if_false, reduceIte, e1, e2, sk0, sr0_0, sk1, x2, nI_add, e4, c12 (d := 7) (v := v) hn8 hn1 hf64 x2, wI_get, upd_get, Nat.reduceEqDiff, reduceIte, if_true, if_false]
      generalize hς : ab_wI (ab_wI σ 2 (itn (wrS v n tn (σ.1 2)) n (σ.1 2))) 1 (upd (σ.1 1) 1 (nI (tn + n))) = ς
      have hag : ag [0, 9, 11, 12, 13, 14, 15, 16, 17, 20, 21, 22, 23, 24, 25, 27, 28, 29, 30, 50, 51, 52, 53, 54, 55, 56, 62, 63, 64] σ ς := by
        rw [← hς]
        exact ag_w (ag_w (ag_rf _ _) (by decide)) (by decide)
      have hs : nI n - 1 = wiv n 0 := by unfold wiv; rw [if_pos (by omega)]; exact pk_sub (a := n) (b := 1) hn1
      simp only [e100_0, e100_1, e100_2, e100_5, e100_6, e100_7, e100_8, e100_11, e100_14, e100_20, e100_21, e100_24, e100_25, e100_26, e100_28, e100_34, e100_35, e100_36, e100_37, true_or, or_true, true_and, and_true, Option.toList, List.cons_append, List.nil_append, if_true, if_false, reduceIte, sk50, c101, in18, e3, bI_0, Bool.true_eq_false, wI_get, upd_get, Nat.reduceEqDiff, reduceIte, if_true, if_false, hag 50 (by decide), x3, nI_add, e4, hs]
      rw [c100b (tn := tn) hn8 hn1 hf64 (by simp only [wI_get, upd_get, Nat.reduceEqDiff, reduceIte, if_true, if_false]; exact x3)]
      refine ⟨rfl, tn + n, fun j => if j < tn then tx j else byt v (n - 1 - (j - tn)), t, f, th, sd, la, lw, ⟨h1, ⟨hf64, ?_, ?_, fun j hj => ⟨?_, ?_, ?_⟩⟩, tdV_ag h3 ?_, mdV_ag h4 ?_ ?_, nok_up (by omega) h5, iNow_ag h6 ?_ ?_, ?_⟩, ⟨ac, fi, hw, hf, hth, hsd, hla, iAc_ag (by omega) ha ?_ ?_⟩, ks, iKp_ag (by omega) hk ?_⟩
      · simp only [wI_get, upd_get, Nat.reduceEqDiff, reduceIte, if_true, if_false]; rw [← hς]; simp only [wI_get, upd_get, Nat.reduceEqDiff, reduceIte, if_true, if_false]
      · simp only [wI_get, upd_get, Nat.reduceEqDiff, reduceIte, if_true, if_false]
      · dsimp only
        split
        next z => exact (x4 j z).1
        next => exact byt_lt v _
      · have e2c : ς.1 2 = itn (wrS v n tn (σ.1 2)) n (σ.1 2) := by rw [← hς]; simp only [wI_get, upd_get, Nat.reduceEqDiff, reduceIte, if_true, if_false]
        simp only [wI_get, upd_get, Nat.reduceEqDiff, reduceIte, if_true, if_false, e2c, wrS_at]
        by_cases z : j < tn
        · rw [if_neg (by omega), if_pos z]; exact (x4 j z).2.1
        · rw [if_pos (by omega), if_neg z]
      · simp only [wI_get, upd_get, Nat.reduceEqDiff, reduceIte, if_true, if_false, hag 51 (by decide), wrM_at]
        by_cases z : j < tn
        · rw [if_neg (by omega), if_pos z]; exact (x4 j z).2.2
        · rw [if_pos (by omega), if_neg z]
      · repeat (first | exact ag_sub hag (by decide) | refine ag_w ?_ (by decide))
      · repeat (first | exact ag_sub hag (by decide) | refine ag_w ?_ (by decide))
      · intro j hj; simp only [List.mem_cons, List.not_mem_nil, or_false] at hj; rcases hj with rfl | rfl <;> simp only [wI_get, upd_get, Nat.reduceEqDiff, reduceIte, if_true, if_false]
      · repeat (first | exact ag_sub hag (by decide) | refine ag_w ?_ (by decide))
      · intro j hj; simp only [List.mem_cons, List.not_mem_nil, or_false] at hj; rcases hj with rfl | rfl | rfl | rfl <;> simp only [wI_get, upd_get, Nat.reduceEqDiff, reduceIte, if_true, if_false]
      · simp only [wI_get, upd_get, Nat.reduceEqDiff, reduceIte, if_true, if_false, hag 9 (by decide)]; exact h7
      · repeat (first | exact ag_sub hag (by decide) | refine ag_w ?_ (by decide))
      · intro j hj; simp only [List.mem_cons, List.not_mem_nil, or_false] at hj; subst hj; simp only [wI_get, upd_get, Nat.reduceEqDiff, reduceIte, if_true, if_false]
      · repeat (first | exact ag_sub hag (by decide) | refine ag_w ?_ (by decide))
    · have e4 : (nI (tn + n) ≤ (64 : Int32)) = False := eq_false (nI_ge (a := 64) (b := tn + n) (by omega) (by omega))
      refine op2_q (.int (-4)) hI ?_
      simp only [e11_0, e11_1, e11_2, e11_5, e11_6, e11_8, e11_11, e11_13, e11_14, e11_15, e11_18, e11_21, e11_22, e11_23, e11_25, e11_28, e11_30, e11_31, e11_32, e11_35, e11_36, e11_37, e11_40, e11_41, e11_44, e11_47, true_or, or_true, true_and, and_true, Option.toList, List.cons_append, List.nil_append, if_true, if_false, reduceIte, e1, e2, sk0, sr0_0, sk1, x2, nI_add, e4]
      refine ⟨sam_rf σ, ?_⟩
      simp only [e100_0, e100_1, e100_2, e100_5, e100_6, e100_7, e100_8, e100_11, e100_14, e100_17, e100_19, e100_20, e100_21, e100_24, e100_25, e100_26, e100_28, e100_31, e100_33, e100_34, e100_35, e100_36, e100_37, e100_41, e100_44, e100_45, e100_48, e100_49, e100_52, e100_53, e100_55, e100_57, e100_58, e100_59, e100_60, e100_63, e100_64, e100_65, e100_66, e100_67, e100_70, e100_71, e100_72, e100_75, e100_78, e100_81, e100_82, e100_85, true_or, or_true, true_and, and_true, Option.toList, List.cons_append, List.nil_append, if_true, if_false, reduceIte, sk50, c101, in18, e3, bI_0, Bool.true_eq_false, wI_get, upd_get, Nat.reduceEqDiff, reduceIte, if_true, if_false, x3, nI_add, e4]
      exact s0
  · have e3 : decide (1 ≤ x.toInt ∧ x.toInt ≤ 8) = false := decide_eq_false hx
    refine op2_q (.int (-2)) hI ?_
    have key : Ev 8 100 0 [some (.ref 50), some (.int x), some (.long v), none, none] [] σ (fun r σ2 => r = some (.int (-2)) ∧ sam σ σ2) := by
      simp only [e100_0, e100_1, e100_2, e100_5, e100_6, e100_7, e100_8, e100_11, e100_14, e100_17, e100_19, e100_20, e100_21, e100_24, e100_25, e100_26, e100_28, e100_31, e100_33, e100_34, e100_35, e100_36, e100_37, e100_41, e100_44, e100_45, e100_48, e100_49, e100_52, e100_53, e100_55, e100_57, e100_58, e100_59, e100_60, e100_63, e100_64, e100_65, e100_66, e100_67, e100_70, e100_71, e100_72, e100_75, e100_78, e100_81, e100_82, e100_85, true_or, or_true, true_and, and_true, Option.toList, List.cons_append, List.nil_append, if_true, if_false, reduceIte, sk50, c101, in18, e3, bI_0]
      exact s0
    simp only [e11_0, e11_1, e11_2, e11_5, e11_6, e11_8, e11_11, e11_13, e11_14, e11_15, e11_18, e11_21, e11_22, e11_23, e11_25, e11_28, e11_30, e11_31, e11_32, e11_35, e11_36, e11_37, e11_40, e11_41, e11_44, e11_47, true_or, or_true, true_and, and_true, Option.toList, List.cons_append, List.nil_append, if_true, if_false, reduceIte, lt_lit, le_lit, ti1, ti8]
    by_cases z : x.toInt < 1
    · rw [if_pos z]; exact ⟨sam_rf σ, key⟩
    · rw [if_neg z, if_neg (by omega)]; exact ⟨sam_rf σ, key⟩
