/-! ACTS, ONE BY ONE -/
theorem wI_get (σ : ab_St) (c k : Nat) (g : Nat → Int32) : (ab_wI σ c g).1 k = if k = c then g else σ.1 k := rfl
theorem upd_get (g : Nat → Int32) (k j : Nat) (x : Int32) : upd g k x j = if j = k then x else g j := rfl
theorem rmb_get (σ : ab_St) (p fi ac c : Nat) (h : (c == 20 || c == 21 || c == 22 || c == 23 || c == 24 || c == 25) = false) : (rmb σ p fi ac).1 c = σ.1 c := rmb_o σ p fi ac (by
  simp only [Bool.or_eq_false_iff, beq_eq_false_iff_ne] at h
  simp only [List.mem_cons, List.not_mem_nil, or_false, not_or]
  exact ⟨h.1.1.1.1.1, h.1.1.1.1.2, h.1.1.1.2, h.1.1.2, h.1.2, h.2⟩)
theorem act_inv {σ τ : ab_St} {B tn : Nat} {tx : Nat → Nat} {t : gT} {f f2 : Nat → Nat} {th sd th2 sd2 : Nat} {la la2 : Int32} {lw ac fi p ks : Nat} {hw : Nat → Nat} {hf : Nat → Nat → Nat} {hth hsd : Nat → Nat} {hla : Nat → Int32} (h : iBas σ B tn tx t f th sd la lw) (ha : iAc σ t B f ac fi hw hf hth hsd hla) (hk : iKp σ t B ks) (hp : p < tP t) (hf2 : ∀ q, q < tP t → q ≠ p → f q = f2 q) (hn : nok t (B + 9) f2 th2 sd2 la2 lw)
    (a20 : τ.1 20 = (rmb σ p fi ac).1 20) (a21 : τ.1 21 = (rmb σ p fi ac).1 21) (a22 : τ.1 22 = (rmb σ p fi ac).1 22) (a23 : τ.1 23 = (rmb σ p fi ac).1 23) (a24 : τ.1 24 = (rmb σ p fi ac).1 24) (a25 : τ.1 25 = (rmb σ p fi ac).1 25)
    (m62 : τ.1 62 = pgL (ntB (σ.1 62) ac) (16 * ntC ac) (σ.1 52) (σ.1 50 7) (σ.1 50 13) (σ.1 50 14)) (m25 : τ.1 50 25 = nI (ntC ac + 1))
    (hi : iNow τ t f2 th2 sd2 la2 lw) (g1 : ag [0, 1, 2, 9, 11, 12, 13, 14, 15, 27, 28, 29, 30, 51, 53, 54, 55, 56, 63, 64] σ τ) (g5 : ag5 [2, 5, 8] σ τ) : Inv (B + 9) τ := by
  obtain ⟨h1, h2, h3, h4, h5, h6, h7⟩ := h
  refine ⟨tn, tx, t, f2, th2, sd2, la2, lw, ⟨h1, iTx_ag h2 (ag_sub g1 (by decide)) (ag5_sub g5 (by decide)), tdV_ag h3 (ag_sub g1 (by decide)), mdV_ag h4 (ag_sub g1 (by decide)) (ag5_sub g5 (by decide)), hn, hi, ?_⟩, ⟨_, _, _, _, _, _, _, ac_push (by omega) h1 ha h5 h6 hp hf2 a20 a21 a22 a23 a24 a25 m62 m25⟩, ks, iKp_ag (by omega) hk (ag_sub g1 (by decide))⟩
  rw [g1 9 (by decide)]
  exact h7
set_option maxHeartbeats 8000000 in
theorem op_go {B : Nat} {σ : ab_St} {x : Int32} (hB : B < 90000) (hI : Inv B σ) : op2 B σ 57 [some (.ref 0), some (.int x)] 128 [some (.ref 50), some (.int x)] := by
  obtain ⟨tn, tx, t, f, th, sd, la, lw, h, ⟨ac, fi, hw, hf, hth, hsd, hla, ha⟩, ks, hk⟩ := id hI
  have hst := bas_stV hB h
  obtain ⟨h1, h2, h3, h4, h5, h6, h7⟩ := id h
  have hth6 : th < 64 := hst.2.2.1
  have hP := h1.1
  have s0 : sam σ (ab_wI σ 50 (upd (σ.1 50) 0 0)) := sam_50 (by decide)
  have g := bas_sam (Nat.le_refl B) s0 h
  by_cases hx : inR x (tP t) = true
  · obtain ⟨p, hp, rfl⟩ := inR_of hx (by omega)
    cases hb : th.testBit p
    · refine op2_q (.int (-3)) hI ?_
      simp only [e57_0, e57_1, e57_4, e57_5, e57_8, e57_11, e57_12, e57_13, e57_14, e57_17, e57_20, e57_21, e57_24, e57_27, e57_29, e57_30, e57_31, e57_34, e57_35, e57_38, e57_39, e57_42, e57_43, e57_46, e57_47, e57_50, e57_51, e57_52, e57_53, e57_54, e57_55, e57_56, e57_59, e57_60, e57_63, e57_65, e57_68, e57_69, e57_72, e57_75, true_or, or_true, true_and, and_true, Option.toList, List.cons_append, List.nil_append, if_true, if_false, reduceIte, sk0, sr0_2, sr0_3, sk11, sk16, c26 (d := 7) (x := nI p) sk11 h3.1 h1.1, hx, bI_0, Bool.true_eq_false, h6.2.1, c32 (s := th) (k := p) (by omega) (by omega), hb]
      refine ⟨sam_rf σ, ?_⟩
      simp only [e128_0, e128_1, e128_2, true_or, or_true, true_and, and_true, Option.toList, List.cons_append, List.nil_append, if_true, if_false, reduceIte, sk50]
      generalize ab_wI σ 50 (upd (σ.1 50) 0 0) = τ at s0 g
      obtain ⟨g1, -, -, g4, g5, g6, -⟩ := id g
      simp only [e128_0, e128_1, e128_2, e128_5, e128_6, e128_7, e128_10, e128_13, e128_14, e128_15, e128_16, e128_19, e128_20, e128_23, e128_26, e128_28, e128_29, e128_30, e128_33, e128_34, e128_35, e128_38, e128_39, e128_40, e128_41, e128_42, e128_43, e128_44, e128_47, e128_48, e128_50, e128_53, e128_54, e128_57, e128_60, true_or, or_true, true_and, and_true, Option.toList, List.cons_append, List.nil_append, if_true, if_false, reduceIte, sk50, c117 g4.1 g1.1, hx, bI_0, Bool.not_true, Bool.true_eq_false, g6.2.2.1, c113 (s := th) (k := p) (by omega) (by omega), hb]
      exact s0
    · have hp2 : 2 ^ p < 64 := Nat.lt_of_lt_of_le (Nat.pow_lt_pow_right (by decide) (show p < 6 by omega)) (Nat.le_refl _)
      have hnd : nd th (2 ^ p) < 64 := nd_lt (n := 6) hth6
      have hndP : nd th (2 ^ p) < 2 ^ tP t := nd_lt h5.1
      have e1 : nI th &&& ((1 <<< (nI p &&& 31)) ^^^ (-1)) = nI (nd th (2 ^ p)) := by rw [nI_shl (by omega), nI_nd (by omega) (by omega)]
      refine op2_v (.int (nI (cnt (nd th (2 ^ p)) 6))) ?_
      have r16 := rmb_get σ p fi ac 16 rfl
      have r50 := rmb_get σ p fi ac 50 rfl
      have r52 := rmb_get σ p fi ac 52 rfl
      have r62 := rmb_get σ p fi ac 62 rfl
      simp only [e57_0, e57_1, e57_4, e57_5, e57_8, e57_11, e57_12, e57_13, e57_14, e57_17, e57_20, e57_21, e57_24, e57_27, e57_29, e57_30, e57_31, e57_34, e57_35, e57_38, e57_39, e57_42, e57_43, e57_46, e57_47, e57_50, e57_51, e57_52, e57_53, e57_54, e57_55, e57_56, e57_59, e57_60, e57_63, e57_65, e57_68, e57_69, e57_72, e57_75, true_or, or_true, true_and, and_true, Option.toList, List.cons_append, List.nil_append, if_true, if_false, reduceIte, sk0, sr0_2, sr0_3, sr0_5, sk11, sk16, sk20, c26 (d := 7) (x := nI p) sk11 h3.1 h1.1, hx, bI_0, Bool.true_eq_false, h6.2.1, c32 (s := th) (k := p) (by omega) (by omega), hb, c48 (d := 7) (p := p) (by omega) ha.2.2.1 ha.2.2.2.1 ha.2.1 ha.1, r16, e1, wI_eq, wI_wI]
      rw [c53 (d := 6) (th := nd th (2 ^ p)) sk16 (by rw [wI_eq, upd_ne _ _ (by decide), upd_eq]) hnd]
      simp only [e57_0, e57_1, e57_4, e57_5, e57_8, e57_11, e57_12, e57_13, e57_14, e57_17, e57_20, e57_21, e57_24, e57_27, e57_29, e57_30, e57_31, e57_34, e57_35, e57_38, e57_39, e57_42, e57_43, e57_46, e57_47, e57_50, e57_51, e57_52, e57_53, e57_54, e57_55, e57_56, e57_59, e57_60, e57_63, e57_65, e57_68, e57_69, e57_72, e57_75, true_or, or_true, true_and, and_true, Option.toList, List.cons_append, List.nil_append, if_true, if_false, reduceIte]
      simp only [e128_0, e128_1, e128_2, true_or, or_true, true_and, and_true, Option.toList, List.cons_append, List.nil_append, if_true, if_false, reduceIte, sk50, wI_get, Nat.reduceEqDiff, r50]
      rw [e128_5, e128_6, e128_7]
      rw [c117 (P := tP t) (by rw [wI_eq, upd_ne _ _ (by decide)]; exact h4.1) h1.1]
      simp only [e128_0, e128_1, e128_2, e128_5, e128_6, e128_7, e128_10, e128_13, e128_14, e128_15, e128_16, e128_19, e128_20, e128_23, e128_26, e128_28, e128_29, e128_30, e128_33, e128_34, e128_35, e128_38, e128_39, e128_40, e128_41, e128_42, e128_43, e128_44, e128_47, e128_48, e128_50, e128_53, e128_54, e128_57, e128_60, true_or, or_true, true_and, and_true, Option.toList, List.cons_append, List.nil_append, if_true, if_false, reduceIte, sk50, hx, bI_0, Bool.not_true, Bool.true_eq_false, wI_eq, upd_ne (σ.1 50) (k := 0) (j := 7) _ (by decide), h6.2.2.1, c113 (s := th) (k := p) (by omega) (by omega), hb]
      rw [c124 (ac := ac) (by rw [wI_eq, upd_ne _ _ (by decide)]; exact ha.2.2.2.2.1) ha.1]
      simp only [e128_0, e128_1, e128_2, e128_5, e128_6, e128_7, e128_10, e128_13, e128_14, e128_15, e128_16, e128_19, e128_20, e128_23, e128_26, e128_28, e128_29, e128_30, e128_33, e128_34, e128_35, e128_38, e128_39, e128_40, e128_41, e128_42, e128_43, e128_44, e128_47, e128_48, e128_50, e128_53, e128_54, e128_57, e128_60, true_or, or_true, true_and, and_true, Option.toList, List.cons_append, List.nil_append, if_true, if_false, reduceIte, sk50, wI_eq, wI_wI, wI_get, Nat.reduceEqDiff, r50, r52, r62, upd_ne (σ.1 50) (k := 0) (j := 7) _ (by decide), upd_ne (σ.1 50) (k := 0) (j := 13) _ (by decide), upd_ne (σ.1 50) (k := 0) (j := 14) _ (by decide), upd_ne (upd (σ.1 50) 0 0) (k := 25) (j := 7) _ (by decide), h6.2.2.1, e1]
      simp only [wI_get, upd_get, Nat.reduceEqDiff, reduceIte, if_true, if_false]
      rw [c129 hnd]
      simp only [e128_0, e128_1, e128_2, e128_5, e128_6, e128_7, e128_10, e128_13, e128_14, e128_15, e128_16, e128_19, e128_20, e128_23, e128_26, e128_28, e128_29, e128_30, e128_33, e128_34, e128_35, e128_38, e128_39, e128_40, e128_41, e128_42, e128_43, e128_44, e128_47, e128_48, e128_50, e128_53, e128_54, e128_57, e128_60, true_or, or_true, true_and, and_true, Option.toList, List.cons_append, List.nil_append, if_true, if_false, reduceIte]
      have hag : ∀ c ∈ [0, 1, 2, 9, 11, 12, 13, 14, 15, 27, 28, 29, 30, 51, 53, 54, 55, 56, 63, 64], (rmb σ p fi ac).1 c = σ.1 c := fun c hc => rmb_o σ p fi ac (by revert c; decide)
      refine act_inv (f2 := f) (th2 := nd th (2 ^ p)) (sd2 := sd) (la2 := -9) (p := p) (fi := fi) (ac := ac) h ha hk hp (fun _ _ _ => rfl) ⟨hndP, h5.2.1, Or.inl rfl, h5.2.2.2.1, fun q hq => by have := h5.2.2.2.2 q hq; omega⟩ ?_ ?_ ?_ ?_ ?_ ?_ ?_ ?_ ?_ ?_ ?_
      · simp only [wI_get, upd_get, Nat.reduceEqDiff, reduceIte, if_true, if_false]
      · simp only [wI_get, upd_get, Nat.reduceEqDiff, reduceIte, if_true, if_false]
      · simp only [wI_get, upd_get, Nat.reduceEqDiff, reduceIte, if_true, if_false]
      · simp only [wI_get, upd_get, Nat.reduceEqDiff, reduceIte, if_true, if_false]
      · simp only [wI_get, upd_get, Nat.reduceEqDiff, reduceIte, if_true, if_false]
      · simp only [wI_get, upd_get, Nat.reduceEqDiff, reduceIte, if_true, if_false]
      · simp only [wI_get, upd_get, Nat.reduceEqDiff, reduceIte, if_true, if_false, h6.2.2.1]
      · simp only [wI_get, upd_get, Nat.reduceEqDiff, reduceIte, if_true, if_false]
      · refine ⟨fun q hq => ?_, ?_, ?_, ?_, ?_, ?_, ?_, ?_, ?_⟩
        · simp only [wI_get, upd_get, Nat.reduceEqDiff, reduceIte, if_true, if_false, rmb_get σ p fi ac 17 rfl, r52]; exact h6.1 q hq
        · simp only [wI_get, upd_get, Nat.reduceEqDiff, reduceIte, if_true, if_false]
        · simp only [wI_get, upd_get, Nat.reduceEqDiff, reduceIte, if_true, if_false]
        · simp only [wI_get, upd_get, Nat.reduceEqDiff, reduceIte, if_true, if_false, h6.2.2.2.1]
        · simp only [wI_get, upd_get, Nat.reduceEqDiff, reduceIte, if_true, if_false, h6.2.2.2.2.1]
        · simp only [wI_get, upd_get, Nat.reduceEqDiff, reduceIte, if_true, if_false]
        · simp only [wI_get, upd_get, Nat.reduceEqDiff, reduceIte, if_true, if_false]
        · simp only [wI_get, upd_get, Nat.reduceEqDiff, reduceIte, if_true, if_false, h6.2.2.2.2.2.2.2.1]
        · simp only [wI_get, upd_get, Nat.reduceEqDiff, reduceIte, if_true, if_false, h6.2.2.2.2.2.2.2.2]
      · exact ag_w (ag_w (ag_w (ag_w hag (by decide)) (by decide)) (by decide)) (by decide)
      · intro k hk2
        simp only [List.mem_cons, List.not_mem_nil, or_false] at hk2
        rcases hk2 with rfl | rfl | rfl <;> simp only [wI_get, upd_get, Nat.reduceEqDiff, reduceIte, if_true, if_false]
  · have hx : inR x (tP t) = false := by simpa using hx
    refine op2_q (.int (-1)) hI ?_
    simp only [e57_0, e57_1, e57_4, e57_5, e57_8, e57_11, e57_12, e57_13, e57_14, e57_17, e57_20, e57_21, e57_24, e57_27, e57_29, e57_30, e57_31, e57_34, e57_35, e57_38, e57_39, e57_42, e57_43, e57_46, e57_47, e57_50, e57_51, e57_52, e57_53, e57_54, e57_55, e57_56, e57_59, e57_60, e57_63, e57_65, e57_68, e57_69, e57_72, e57_75, true_or, or_true, true_and, and_true, Option.toList, List.cons_append, List.nil_append, if_true, if_false, reduceIte, sk0, sr0_2, sk11, c26 (d := 7) (x := x) sk11 h3.1 h1.1, hx, bI_0]
    refine ⟨sam_rf σ, ?_⟩
    simp only [e128_0, e128_1, e128_2, true_or, or_true, true_and, and_true, Option.toList, List.cons_append, List.nil_append, if_true, if_false, reduceIte, sk50]
    generalize ab_wI σ 50 (upd (σ.1 50) 0 0) = τ at s0 g
    obtain ⟨g1, -, -, g4, g5, g6, -⟩ := id g
    simp only [e128_0, e128_1, e128_2, e128_5, e128_6, e128_7, e128_10, e128_13, e128_14, e128_15, e128_16, e128_19, e128_20, e128_23, e128_26, e128_28, e128_29, e128_30, e128_33, e128_34, e128_35, e128_38, e128_39, e128_40, e128_41, e128_42, e128_43, e128_44, e128_47, e128_48, e128_50, e128_53, e128_54, e128_57, e128_60, true_or, or_true, true_and, and_true, Option.toList, List.cons_append, List.nil_append, if_true, if_false, reduceIte, sk50, c117 g4.1 g1.1, hx, bI_0, Bool.not_false, Bool.true_eq_false]
    exact s0
