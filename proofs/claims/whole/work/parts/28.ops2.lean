/-! MORE QUESTIONS -/
theorem itn_congr {α : Type} (s1 s2 : Nat → α → α) (n : Nat) (a : α) (h : ∀ i b, i < n → s1 i b = s2 i b) : itn s1 n a = itn s2 n a := by
  induction n with
  | zero => rfl
  | succ n ih =>
    show s1 n (itn s1 n a) = s2 n (itn s2 n a)
    rw [ih (fun i b hi => h i b (by omega)), h n _ (by omega)]
theorem sgo_bit {t : gT} {p i : Nat} (hi : i < tS t) : (sgo t p).testBit i = (tw t i == p) := by
  unfold sgo
  rw [sof_bit]
  simp [hi]
theorem sgo_lt {t : gT} (ht : tok t) (p : Nat) : sgo t p < 256 := Nat.lt_of_lt_of_le (sof_lt _ _) (two_le8 _ ht.2.1)
theorem wsum_p {t : gT} (ht : tok t) {st p : Nat} (hp : p < 2 ^ 30) : itn (fun i a => if st.testBit i = true ∧ (nI p = -9 ∨ nI (tw t i) = nI p) then a + tv t i else a) (tS t) 0 = sm (st &&& sgo t p) (tv t) (tS t) := by
  refine itn_congr _ _ _ _ (fun i b hi => ?_)
  have hw := (ht.2.2 i hi).1
  have hP := ht.1
  unfold smS
  rw [Nat.testBit_and, sgo_bit hi]
  have e1 : (nI p = -9) = False := eq_false (nI_m9 (by omega))
  have e2 : (nI (tw t i) = nI p) = (tw t i = p) := propext (nI_eq (by omega) (by omega))
  simp only [e1, e2, false_or, Bool.and_eq_true, beq_iff_eq]
theorem wsum_n {t : gT} {st : Nat} : itn (fun i a => if st.testBit i = true ∧ ((-9 : Int32) = -9 ∨ nI (tw t i) = -9) then a + tv t i else a) (tS t) 0 = sm st (tv t) (tS t) := by
  refine itn_congr _ _ _ _ (fun i b hi => ?_)
  unfold smS
  simp
set_option maxHeartbeats 4000000 in
theorem op_person {B : Nat} {σ : ab_St} {x w : Int32} (hB : B < 90000) (hI : Inv B σ) : op2 B σ 41 [some (.ref 0), some (.int x), some (.int w)] 116 [some (.ref 50), some (.int x), some (.int w)] := by
  obtain ⟨tn, tx, t, f, th, sd, la, lw, h, -⟩ := id hI
  have hst := bas_stV hB h
  obtain ⟨h1, h2, h3, h4, h5, h6, h7⟩ := id h
  have hsd : sd < 256 := by have := two_le8 _ h1.2.1; have := h5.2.1; omega
  have hth : th < 64 := hst.2.2.1
  have hP := h1.1
  have hS := h1.2.1
  have hls := lst_lt th f
  have s0 : sam σ (ab_wI σ 50 (upd (σ.1 50) 0 0)) := sam_50 (by decide)
  have g := bas_sam (Nat.le_refl B) s0 h
  by_cases hx : inR x (tP t) = true
  · obtain ⟨p, hp, rfl⟩ := inR_of hx (by omega)
    have hps := sgo_lt h1 p
    have hand : nI sd &&& nI (sgo t p) = nI (sd &&& sgo t p) := nI_and (by omega) (by omega)
    have hal : sd &&& sgo t p < 256 := Nat.lt_of_le_of_lt Nat.and_le_left hsd
    have c26' := fun Q => c26 (d := 7) (x := nI p) (Q := Q) sk11 h3.1 h1.1
    have hw := (h6.1 p hp).1
    by_cases w0 : w = 0
    · refine op2_q (.int (nI (f p))) hI ?_
      have key : Ev 8 116 0 [some (.ref 50), some (.int (nI p)), some (.int w)] [] σ (fun r σ2 => r = some (.int (nI (f p))) ∧ sam σ σ2) := by
        simp only [e116_0, e116_1, e116_2, true_or, or_true, true_and, and_true, Option.toList, List.cons_append, List.nil_append, if_true, if_false, reduceIte, sk50]
        generalize ab_wI σ 50 (upd (σ.1 50) 0 0) = τ at s0 g
        have gm := bas_mlV hB g
        have s1 := sam_bgn τ (tP t)
        have g2 := bas_sam (Nat.le_refl B) s1 g
        obtain ⟨g1, -, -, g4, g5, g6, -⟩ := id g
        have g6b := g2.2.2.2.2.2.1
        have hw2 := (g6b.1 p hp).2
        simp only [e116_0, e116_1, e116_2, e116_5, e116_6, e116_7, e116_10, e116_13, e116_14, e116_15, e116_16, e116_19, e116_20, e116_52, e116_53, e116_56, e116_57, e116_58, e116_59, e116_60, e116_63, e116_64, e116_67, e116_70, e116_71, e116_74, e116_75, e116_76, e116_77, e116_80, e116_81, e116_84, e116_87, e116_88, e116_91, e116_92, e116_93, e116_94, e116_95, e116_98, e116_99, e116_102, e116_103, e116_105, true_or, or_true, true_and, and_true, Option.toList, List.cons_append, List.nil_append, if_true, if_false, reduceIte, eq_true w0, sk50, sr50_6, sk52, sn52, c117 g4.1 g1.1, hx, bI_0, Bool.not_true, Bool.true_eq_false, c112 g4.1 g1.1, in_eq (j := p) (n := 6) (by omega) (by decide), nI_clamp (n := p) (by omega), hw2, g6b.2.2.1, g6b.2.2.2.2.1, c113 (s := th) (k := p) (by omega) (by omega), c114 (d := 6) gm, c113 (s := lst th f) (k := p) (by omega) (by omega), c115 (d := 6) (p := nI p) g1 g2.2.2.2.1 (show sd < 2 ^ 31 by omega), wsum_p g1 (st := sd) (p := p) (by omega)]
        exact sam_tr s0 s1
      simp only [e41_0, e41_1, e41_4, e41_5, e41_8, e41_11, e41_12, e41_13, e41_14, e41_44, e41_45, e41_48, e41_51, e41_52, e41_53, e41_54, e41_55, e41_58, e41_61, e41_62, e41_65, e41_68, e41_69, e41_72, e41_73, e41_74, e41_75, e41_78, e41_81, e41_82, e41_85, e41_88, e41_89, e41_92, e41_93, e41_94, e41_95, e41_98, e41_99, e41_102, e41_105, e41_106, e41_109, e41_110, e41_113, e41_114, e41_117, e41_118, e41_120, true_or, or_true, true_and, and_true, Option.toList, List.cons_append, List.nil_append, if_true, if_false, reduceIte, eq_true w0, sk0, sr0_2, sr0_3, sr16_0, sk11, sk16, sk17, sn17, c26', hx, bI_0, Bool.true_eq_false, in_eq (j := p) (n := 6) (by omega) (by decide), nI_clamp (n := p) (by omega), hw, h6.2.1, h6.2.2.2.1, c32 (s := th) (k := p) (by omega) (by omega), c38 (d := 6) stO16 hst, c32 (s := lst th f) (k := p) (by omega) (by omega), c42 (d := 7) (p := p) tdO11 h1 h3 (by omega), hand, c39 (d := 6) (st := sd &&& sgo t p) tdO11 h1 h3 (by omega)]
      exact ⟨sam_rf σ, key⟩
    by_cases w1 : w = 1
    · refine op2_q (.int (bI (th.testBit p))) hI ?_
      have key : Ev 8 116 0 [some (.ref 50), some (.int (nI p)), some (.int w)] [] σ (fun r σ2 => r = some (.int (bI (th.testBit p))) ∧ sam σ σ2) := by
        simp only [e116_0, e116_1, e116_2, true_or, or_true, true_and, and_true, Option.toList, List.cons_append, List.nil_append, if_true, if_false, reduceIte, sk50]
        generalize ab_wI σ 50 (upd (σ.1 50) 0 0) = τ at s0 g
        have gm := bas_mlV hB g
        have s1 := sam_bgn τ (tP t)
        have g2 := bas_sam (Nat.le_refl B) s1 g
        obtain ⟨g1, -, -, g4, g5, g6, -⟩ := id g
        have g6b := g2.2.2.2.2.2.1
        have hw2 := (g6b.1 p hp).2
        simp only [e116_0, e116_1, e116_2, e116_5, e116_6, e116_7, e116_10, e116_13, e116_14, e116_15, e116_16, e116_19, e116_20, e116_52, e116_53, e116_56, e116_57, e116_58, e116_59, e116_60, e116_63, e116_64, e116_67, e116_70, e116_71, e116_74, e116_75, e116_76, e116_77, e116_80, e116_81, e116_84, e116_87, e116_88, e116_91, e116_92, e116_93, e116_94, e116_95, e116_98, e116_99, e116_102, e116_103, e116_105, true_or, or_true, true_and, and_true, Option.toList, List.cons_append, List.nil_append, if_true, if_false, reduceIte, w0, eq_true w1, sk50, sr50_6, sk52, sn52, c117 g4.1 g1.1, hx, bI_0, Bool.not_true, Bool.true_eq_false, c112 g4.1 g1.1, in_eq (j := p) (n := 6) (by omega) (by decide), nI_clamp (n := p) (by omega), hw2, g6b.2.2.1, g6b.2.2.2.2.1, c113 (s := th) (k := p) (by omega) (by omega), c114 (d := 6) gm, c113 (s := lst th f) (k := p) (by omega) (by omega), c115 (d := 6) (p := nI p) g1 g2.2.2.2.1 (show sd < 2 ^ 31 by omega), wsum_p g1 (st := sd) (p := p) (by omega)]
        cases th.testBit p <;> simp [bI] <;> exact sam_tr s0 s1
      simp only [e41_0, e41_1, e41_4, e41_5, e41_8, e41_11, e41_12, e41_13, e41_14, e41_44, e41_45, e41_48, e41_51, e41_52, e41_53, e41_54, e41_55, e41_58, e41_61, e41_62, e41_65, e41_68, e41_69, e41_72, e41_73, e41_74, e41_75, e41_78, e41_81, e41_82, e41_85, e41_88, e41_89, e41_92, e41_93, e41_94, e41_95, e41_98, e41_99, e41_102, e41_105, e41_106, e41_109, e41_110, e41_113, e41_114, e41_117, e41_118, e41_120, true_or, or_true, true_and, and_true, Option.toList, List.cons_append, List.nil_append, if_true, if_false, reduceIte, w0, eq_true w1, sk0, sr0_2, sr0_3, sr16_0, sk11, sk16, sk17, sn17, c26', hx, bI_0, Bool.true_eq_false, in_eq (j := p) (n := 6) (by omega) (by decide), nI_clamp (n := p) (by omega), hw, h6.2.1, h6.2.2.2.1, c32 (s := th) (k := p) (by omega) (by omega), c38 (d := 6) stO16 hst, c32 (s := lst th f) (k := p) (by omega) (by omega), c42 (d := 7) (p := p) tdO11 h1 h3 (by omega), hand, c39 (d := 6) (st := sd &&& sgo t p) tdO11 h1 h3 (by omega)]
      cases hb : th.testBit p <;> rw [hb] at key <;> simp only [true_or, or_true, true_and, and_true, Option.toList, List.cons_append, List.nil_append, if_true, if_false, reduceIte, bI, Bool.true_eq_false, Bool.false_eq_true] at key ⊢ <;> exact ⟨sam_rf σ, key⟩
    by_cases w2 : w = 2
    · refine op2_q (.int (bI ((lst th f).testBit p))) hI ?_
      have key : Ev 8 116 0 [some (.ref 50), some (.int (nI p)), some (.int w)] [] σ (fun r σ2 => r = some (.int (bI ((lst th f).testBit p))) ∧ sam σ σ2) := by
        simp only [e116_0, e116_1, e116_2, true_or, or_true, true_and, and_true, Option.toList, List.cons_append, List.nil_append, if_true, if_false, reduceIte, sk50]
        generalize ab_wI σ 50 (upd (σ.1 50) 0 0) = τ at s0 g
        have gm := bas_mlV hB g
        have s1 := sam_bgn τ (tP t)
        have g2 := bas_sam (Nat.le_refl B) s1 g
        obtain ⟨g1, -, -, g4, g5, g6, -⟩ := id g
        have g6b := g2.2.2.2.2.2.1
        have hw2 := (g6b.1 p hp).2
        simp only [e116_0, e116_1, e116_2, e116_5, e116_6, e116_7, e116_10, e116_13, e116_14, e116_15, e116_16, e116_19, e116_20, e116_52, e116_53, e116_56, e116_57, e116_58, e116_59, e116_60, e116_63, e116_64, e116_67, e116_70, e116_71, e116_74, e116_75, e116_76, e116_77, e116_80, e116_81, e116_84, e116_87, e116_88, e116_91, e116_92, e116_93, e116_94, e116_95, e116_98, e116_99, e116_102, e116_103, e116_105, true_or, or_true, true_and, and_true, Option.toList, List.cons_append, List.nil_append, if_true, if_false, reduceIte, w0, w1, eq_true w2, sk50, sr50_6, sk52, sn52, c117 g4.1 g1.1, hx, bI_0, Bool.not_true, Bool.true_eq_false, c112 g4.1 g1.1, in_eq (j := p) (n := 6) (by omega) (by decide), nI_clamp (n := p) (by omega), hw2, g6b.2.2.1, g6b.2.2.2.2.1, c113 (s := th) (k := p) (by omega) (by omega), c114 (d := 6) gm, c113 (s := lst th f) (k := p) (by omega) (by omega), c115 (d := 6) (p := nI p) g1 g2.2.2.2.1 (show sd < 2 ^ 31 by omega), wsum_p g1 (st := sd) (p := p) (by omega)]
        cases (lst th f).testBit p <;> simp [bI] <;> exact sam_tr s0 s1
      simp only [e41_0, e41_1, e41_4, e41_5, e41_8, e41_11, e41_12, e41_13, e41_14, e41_44, e41_45, e41_48, e41_51, e41_52, e41_53, e41_54, e41_55, e41_58, e41_61, e41_62, e41_65, e41_68, e41_69, e41_72, e41_73, e41_74, e41_75, e41_78, e41_81, e41_82, e41_85, e41_88, e41_89, e41_92, e41_93, e41_94, e41_95, e41_98, e41_99, e41_102, e41_105, e41_106, e41_109, e41_110, e41_113, e41_114, e41_117, e41_118, e41_120, true_or, or_true, true_and, and_true, Option.toList, List.cons_append, List.nil_append, if_true, if_false, reduceIte, w0, w1, eq_true w2, sk0, sr0_2, sr0_3, sr16_0, sk11, sk16, sk17, sn17, c26', hx, bI_0, Bool.true_eq_false, in_eq (j := p) (n := 6) (by omega) (by decide), nI_clamp (n := p) (by omega), hw, h6.2.1, h6.2.2.2.1, c32 (s := th) (k := p) (by omega) (by omega), c38 (d := 6) stO16 hst, c32 (s := lst th f) (k := p) (by omega) (by omega), c42 (d := 7) (p := p) tdO11 h1 h3 (by omega), hand, c39 (d := 6) (st := sd &&& sgo t p) tdO11 h1 h3 (by omega)]
      cases hb : (lst th f).testBit p <;> rw [hb] at key <;> simp only [true_or, or_true, true_and, and_true, Option.toList, List.cons_append, List.nil_append, if_true, if_false, reduceIte, bI, Bool.true_eq_false, Bool.false_eq_true] at key ⊢ <;> exact ⟨sam_rf σ, key⟩
    by_cases w3 : w = 3
    · refine op2_q (.int (nI (sm (sd &&& sgo t p) (tv t) (tS t)))) hI ?_
      have key : Ev 8 116 0 [some (.ref 50), some (.int (nI p)), some (.int w)] [] σ (fun r σ2 => r = some (.int (nI (sm (sd &&& sgo t p) (tv t) (tS t)))) ∧ sam σ σ2) := by
        simp only [e116_0, e116_1, e116_2, true_or, or_true, true_and, and_true, Option.toList, List.cons_append, List.nil_append, if_true, if_false, reduceIte, sk50]
        generalize ab_wI σ 50 (upd (σ.1 50) 0 0) = τ at s0 g
        have gm := bas_mlV hB g
        have s1 := sam_bgn τ (tP t)
        have g2 := bas_sam (Nat.le_refl B) s1 g
        obtain ⟨g1, -, -, g4, g5, g6, -⟩ := id g
        have g6b := g2.2.2.2.2.2.1
        have hw2 := (g6b.1 p hp).2
        simp only [e116_0, e116_1, e116_2, e116_5, e116_6, e116_7, e116_10, e116_13, e116_14, e116_15, e116_16, e116_19, e116_20, e116_52, e116_53, e116_56, e116_57, e116_58, e116_59, e116_60, e116_63, e116_64, e116_67, e116_70, e116_71, e116_74, e116_75, e116_76, e116_77, e116_80, e116_81, e116_84, e116_87, e116_88, e116_91, e116_92, e116_93, e116_94, e116_95, e116_98, e116_99, e116_102, e116_103, e116_105, true_or, or_true, true_and, and_true, Option.toList, List.cons_append, List.nil_append, if_true, if_false, reduceIte, w0, w1, w2, eq_true w3, sk50, sr50_6, sk52, sn52, c117 g4.1 g1.1, hx, bI_0, Bool.not_true, Bool.true_eq_false, c112 g4.1 g1.1, in_eq (j := p) (n := 6) (by omega) (by decide), nI_clamp (n := p) (by omega), hw2, g6b.2.2.1, g6b.2.2.2.2.1, c113 (s := th) (k := p) (by omega) (by omega), c114 (d := 6) gm, c113 (s := lst th f) (k := p) (by omega) (by omega), c115 (d := 6) (p := nI p) g1 g2.2.2.2.1 (show sd < 2 ^ 31 by omega), wsum_p g1 (st := sd) (p := p) (by omega)]
        exact sam_tr s0 s1
      simp only [e41_0, e41_1, e41_4, e41_5, e41_8, e41_11, e41_12, e41_13, e41_14, e41_44, e41_45, e41_48, e41_51, e41_52, e41_53, e41_54, e41_55, e41_58, e41_61, e41_62, e41_65, e41_68, e41_69, e41_72, e41_73, e41_74, e41_75, e41_78, e41_81, e41_82, e41_85, e41_88, e41_89, e41_92, e41_93, e41_94, e41_95, e41_98, e41_99, e41_102, e41_105, e41_106, e41_109, e41_110, e41_113, e41_114, e41_117, e41_118, e41_120, true_or, or_true, true_and, and_true, Option.toList, List.cons_append, List.nil_append, if_true, if_false, reduceIte, w0, w1, w2, eq_true w3, sk0, sr0_2, sr0_3, sr16_0, sk11, sk16, sk17, sn17, c26', hx, bI_0, Bool.true_eq_false, in_eq (j := p) (n := 6) (by omega) (by decide), nI_clamp (n := p) (by omega), hw, h6.2.1, h6.2.2.2.1, c32 (s := th) (k := p) (by omega) (by omega), c38 (d := 6) stO16 hst, c32 (s := lst th f) (k := p) (by omega) (by omega), c42 (d := 7) (p := p) tdO11 h1 h3 (by omega), hand, c39 (d := 6) (st := sd &&& sgo t p) tdO11 h1 h3 (by omega)]
      exact ⟨sam_rf σ, key⟩
    refine op2_q (.int (-2)) hI ?_
    have key : Ev 8 116 0 [some (.ref 50), some (.int (nI p)), some (.int w)] [] σ (fun r σ2 => r = some (.int (-2)) ∧ sam σ σ2) := by
      simp only [e116_0, e116_1, e116_2, true_or, or_true, true_and, and_true, Option.toList, List.cons_append, List.nil_append, if_true, if_false, reduceIte, sk50]
      generalize ab_wI σ 50 (upd (σ.1 50) 0 0) = τ at s0 g
      have gm := bas_mlV hB g
      have s1 := sam_bgn τ (tP t)
      have g2 := bas_sam (Nat.le_refl B) s1 g
      obtain ⟨g1, -, -, g4, g5, g6, -⟩ := id g
      have g6b := g2.2.2.2.2.2.1
      have hw2 := (g6b.1 p hp).2
      simp only [e116_0, e116_1, e116_2, e116_5, e116_6, e116_7, e116_10, e116_13, e116_14, e116_15, e116_16, e116_19, e116_20, e116_52, e116_53, e116_56, e116_57, e116_58, e116_59, e116_60, e116_63, e116_64, e116_67, e116_70, e116_71, e116_74, e116_75, e116_76, e116_77, e116_80, e116_81, e116_84, e116_87, e116_88, e116_91, e116_92, e116_93, e116_94, e116_95, e116_98, e116_99, e116_102, e116_103, e116_105, true_or, or_true, true_and, and_true, Option.toList, List.cons_append, List.nil_append, if_true, if_false, reduceIte, w0, w1, w2, w3, sk50, sr50_6, sk52, sn52, c117 g4.1 g1.1, hx, bI_0, Bool.not_true, Bool.true_eq_false, c112 g4.1 g1.1, in_eq (j := p) (n := 6) (by omega) (by decide), nI_clamp (n := p) (by omega), hw2, g6b.2.2.1, g6b.2.2.2.2.1, c113 (s := th) (k := p) (by omega) (by omega), c114 (d := 6) gm, c113 (s := lst th f) (k := p) (by omega) (by omega), c115 (d := 6) (p := nI p) g1 g2.2.2.2.1 (show sd < 2 ^ 31 by omega), wsum_p g1 (st := sd) (p := p) (by omega)]
      exact sam_tr s0 s1
    simp only [e41_0, e41_1, e41_4, e41_5, e41_8, e41_11, e41_12, e41_13, e41_14, e41_44, e41_45, e41_48, e41_51, e41_52, e41_53, e41_54, e41_55, e41_58, e41_61, e41_62, e41_65, e41_68, e41_69, e41_72, e41_73, e41_74, e41_75, e41_78, e41_81, e41_82, e41_85, e41_88, e41_89, e41_92, e41_93, e41_94, e41_95, e41_98, e41_99, e41_102, e41_105, e41_106, e41_109, e41_110, e41_113, e41_114, e41_117, e41_118, e41_120, true_or, or_true, true_and, and_true, Option.toList, List.cons_append, List.nil_append, if_true, if_false, reduceIte, w0, w1, w2, w3, sk0, sr0_2, sr0_3, sr16_0, sk11, sk16, sk17, sn17, c26', hx, bI_0, Bool.true_eq_false, in_eq (j := p) (n := 6) (by omega) (by decide), nI_clamp (n := p) (by omega), hw, h6.2.1, h6.2.2.2.1, c32 (s := th) (k := p) (by omega) (by omega), c38 (d := 6) stO16 hst, c32 (s := lst th f) (k := p) (by omega) (by omega), c42 (d := 7) (p := p) tdO11 h1 h3 (by omega), hand, c39 (d := 6) (st := sd &&& sgo t p) tdO11 h1 h3 (by omega)]
    exact ⟨sam_rf σ, key⟩
  · have hx : inR x (tP t) = false := by simpa using hx
    refine op2_q (.int (-1)) hI ?_
    simp only [e41_0, e41_1, e41_4, e41_5, e41_8, e41_11, e41_12, e41_13, e41_14, e41_44, e41_45, e41_48, e41_51, e41_52, e41_53, e41_54, e41_55, e41_58, e41_61, e41_62, e41_65, e41_68, e41_69, e41_72, e41_73, e41_74, e41_75, e41_78, e41_81, e41_82, e41_85, e41_88, e41_89, e41_92, e41_93, e41_94, e41_95, e41_98, e41_99, e41_102, e41_105, e41_106, e41_109, e41_110, e41_113, e41_114, e41_117, e41_118, e41_120, true_or, or_true, true_and, and_true, Option.toList, List.cons_append, List.nil_append, if_true, if_false, reduceIte, sk0, sr0_2, sk11, c26 (d := 7) (x := x) sk11 h3.1 h1.1, hx, bI_0]
    refine ⟨sam_rf σ, ?_⟩
    simp only [e116_0, e116_1, e116_2, true_or, or_true, true_and, and_true, Option.toList, List.cons_append, List.nil_append, if_true, if_false, reduceIte, sk50]
    generalize ab_wI σ 50 (upd (σ.1 50) 0 0) = τ at s0 g
    obtain ⟨g1, -, -, g4, g5, g6, -⟩ := id g
    simp only [e116_0, e116_1, e116_2, e116_5, e116_6, e116_7, e116_10, e116_13, e116_14, e116_15, e116_16, e116_19, e116_20, e116_52, e116_53, e116_56, e116_57, e116_58, e116_59, e116_60, e116_63, e116_64, e116_67, e116_70, e116_71, e116_74, e116_75, e116_76, e116_77, e116_80, e116_81, e116_84, e116_87, e116_88, e116_91, e116_92, e116_93, e116_94, e116_95, e116_98, e116_99, e116_102, e116_103, e116_105, true_or, or_true, true_and, and_true, Option.toList, List.cons_append, List.nil_append, if_true, if_false, reduceIte, sk50, c117 g4.1 g1.1, hx, bI_0, Bool.not_false, Bool.true_eq_false]
    exact s0
set_option maxHeartbeats 4000000 in
theorem op_saying {B : Nat} {σ : ab_St} {x w : Int32} (hB : B < 90000) (hI : Inv B σ) : op2 B σ 43 [some (.ref 0), some (.int x), some (.int w)] 118 [some (.ref 50), some (.int x), some (.int w)] := by
  obtain ⟨tn, tx, t, f, th, sd, la, lw, h, -⟩ := id hI
  have hst := bas_stV hB h
  obtain ⟨h1, h2, h3, h4, h5, h6, h7⟩ := id h
  have hsd : sd < 256 := by have := two_le8 _ h1.2.1; have := h5.2.1; omega
  have hth : th < 64 := hst.2.2.1
  have hP := h1.1
  have hS := h1.2.1
  have hls := lst_lt th f
  have s0 : sam σ (ab_wI σ 50 (upd (σ.1 50) 0 0)) := sam_50 (by decide)
  have g := bas_sam (Nat.le_refl B) s0 h
  by_cases hx : inR x (tS t) = true
  · obtain ⟨p, hp, rfl⟩ := inR_of hx (by omega)
    have c31' := fun Q => c31 (d := 7) (x := nI p) (Q := Q) sk11 h3.2.1 h1.2.1
    obtain ⟨q1, q2, q3, q4⟩ := h3.2.2 p hp
    rw [sr11_0] at q1
    rw [sr11_1] at q2
    rw [sr11_2] at q3
    rw [sr11_3] at q4
    by_cases w0 : w = 0
    · refine op2_q (.int (nI (tw t p))) hI ?_
      have key : Ev 8 118 0 [some (.ref 50), some (.int (nI p)), some (.int w)] [] σ (fun r σ2 => r = some (.int (nI (tw t p))) ∧ sam σ σ2) := by
        simp only [e118_0, e118_1, e118_2, true_or, or_true, true_and, and_true, Option.toList, List.cons_append, List.nil_append, if_true, if_false, reduceIte, sk50]
        generalize ab_wI σ 50 (upd (σ.1 50) 0 0) = τ at s0 g
        obtain ⟨g1, -, -, g4, g5, g6, -⟩ := id g
        obtain ⟨y1, y2, y3, y4⟩ := g4.2.2 p hp
        simp only [e118_0, e118_1, e118_2, e118_5, e118_6, e118_7, e118_10, e118_13, e118_14, e118_15, e118_16, e118_52, e118_53, e118_56, e118_57, e118_58, e118_59, e118_60, e118_63, e118_64, e118_65, e118_66, e118_67, e118_70, e118_71, e118_72, e118_73, e118_74, e118_77, e118_78, e118_79, e118_80, e118_81, e118_84, e118_85, e118_88, e118_91, e118_92, e118_95, e118_96, e118_97, e118_99, true_or, or_true, true_and, and_true, Option.toList, List.cons_append, List.nil_append, if_true, if_false, reduceIte, eq_true w0, sk50, sr50_9, sr50_10, sr50_11, sr50_12, sk53, sn53, sk54, sn54, sk55, sn55, sk56, sn56, c119 g4.2.1 g1.2.1, hx, bI_0, Bool.not_true, Bool.true_eq_false, in_eq (j := p) (n := 8) (by omega) (by decide), nI_clamp (n := p) (by omega), y1, y2, y3, y4, g6.2.2.2.2.1, c113 (s := sd) (k := p) (by omega) (by omega)]
        exact s0
      simp only [e43_0, e43_1, e43_4, e43_5, e43_8, e43_11, e43_12, e43_13, e43_14, e43_48, e43_49, e43_52, e43_55, e43_56, e43_57, e43_58, e43_59, e43_62, e43_65, e43_66, e43_67, e43_68, e43_69, e43_72, e43_75, e43_76, e43_77, e43_78, e43_79, e43_82, e43_85, e43_86, e43_87, e43_88, e43_89, e43_92, e43_95, e43_96, e43_99, e43_102, e43_103, e43_106, e43_107, e43_108, e43_110, true_or, or_true, true_and, and_true, Option.toList, List.cons_append, List.nil_append, if_true, if_false, reduceIte, eq_true w0, sk0, sr0_2, sr0_3, sr11_0, sr11_1, sr11_2, sr11_3, sk11, sk12, sn12, sk13, sn13, sk14, sn14, sk15, sn15, sk16, c31', hx, bI_0, Bool.true_eq_false, in_eq (j := p) (n := 8) (by omega) (by decide), nI_clamp (n := p) (by omega), q1, q2, q3, q4, h6.2.2.2.1, c32 (s := sd) (k := p) (by omega) (by omega)]
      exact ⟨sam_rf σ, key⟩
    by_cases w1 : w = 1
    · refine op2_q (.int (nI (tz t p))) hI ?_
      have key : Ev 8 118 0 [some (.ref 50), some (.int (nI p)), some (.int w)] [] σ (fun r σ2 => r = some (.int (nI (tz t p))) ∧ sam σ σ2) := by
        simp only [e118_0, e118_1, e118_2, true_or, or_true, true_and, and_true, Option.toList, List.cons_append, List.nil_append, if_true, if_false, reduceIte, sk50]
        generalize ab_wI σ 50 (upd (σ.1 50) 0 0) = τ at s0 g
        obtain ⟨g1, -, -, g4, g5, g6, -⟩ := id g
        obtain ⟨y1, y2, y3, y4⟩ := g4.2.2 p hp
        simp only [e118_0, e118_1, e118_2, e118_5, e118_6, e118_7, e118_10, e118_13, e118_14, e118_15, e118_16, e118_52, e118_53, e118_56, e118_57, e118_58, e118_59, e118_60, e118_63, e118_64, e118_65, e118_66, e118_67, e118_70, e118_71, e118_72, e118_73, e118_74, e118_77, e118_78, e118_79, e118_80, e118_81, e118_84, e118_85, e118_88, e118_91, e118_92, e118_95, e118_96, e118_97, e118_99, true_or, or_true, true_and, and_true, Option.toList, List.cons_append, List.nil_append, if_true, if_false, reduceIte, w0, eq_true w1, sk50, sr50_9, sr50_10, sr50_11, sr50_12, sk53, sn53, sk54, sn54, sk55, sn55, sk56, sn56, c119 g4.2.1 g1.2.1, hx, bI_0, Bool.not_true, Bool.true_eq_false, in_eq (j := p) (n := 8) (by omega) (by decide), nI_clamp (n := p) (by omega), y1, y2, y3, y4, g6.2.2.2.2.1, c113 (s := sd) (k := p) (by omega) (by omega)]
        exact s0
      simp only [e43_0, e43_1, e43_4, e43_5, e43_8, e43_11, e43_12, e43_13, e43_14, e43_48, e43_49, e43_52, e43_55, e43_56, e43_57, e43_58, e43_59, e43_62, e43_65, e43_66, e43_67, e43_68, e43_69, e43_72, e43_75, e43_76, e43_77, e43_78, e43_79, e43_82, e43_85, e43_86, e43_87, e43_88, e43_89, e43_92, e43_95, e43_96, e43_99, e43_102, e43_103, e43_106, e43_107, e43_108, e43_110, true_or, or_true, true_and, and_true, Option.toList, List.cons_append, List.nil_append, if_true, if_false, reduceIte, w0, eq_true w1, sk0, sr0_2, sr0_3, sr11_0, sr11_1, sr11_2, sr11_3, sk11, sk12, sn12, sk13, sn13, sk14, sn14, sk15, sn15, sk16, c31', hx, bI_0, Bool.true_eq_false, in_eq (j := p) (n := 8) (by omega) (by decide), nI_clamp (n := p) (by omega), q1, q2, q3, q4, h6.2.2.2.1, c32 (s := sd) (k := p) (by omega) (by omega)]
      exact ⟨sam_rf σ, key⟩
    by_cases w2 : w = 2
    · refine op2_q (.int (nI (tv t p))) hI ?_
      have key : Ev 8 118 0 [some (.ref 50), some (.int (nI p)), some (.int w)] [] σ (fun r σ2 => r = some (.int (nI (tv t p))) ∧ sam σ σ2) := by
        simp only [e118_0, e118_1, e118_2, true_or, or_true, true_and, and_true, Option.toList, List.cons_append, List.nil_append, if_true, if_false, reduceIte, sk50]
        generalize ab_wI σ 50 (upd (σ.1 50) 0 0) = τ at s0 g
        obtain ⟨g1, -, -, g4, g5, g6, -⟩ := id g
        obtain ⟨y1, y2, y3, y4⟩ := g4.2.2 p hp
        simp only [e118_0, e118_1, e118_2, e118_5, e118_6, e118_7, e118_10, e118_13, e118_14, e118_15, e118_16, e118_52, e118_53, e118_56, e118_57, e118_58, e118_59, e118_60, e118_63, e118_64, e118_65, e118_66, e118_67, e118_70, e118_71, e118_72, e118_73, e118_74, e118_77, e118_78, e118_79, e118_80, e118_81, e118_84, e118_85, e118_88, e118_91, e118_92, e118_95, e118_96, e118_97, e118_99, true_or, or_true, true_and, and_true, Option.toList, List.cons_append, List.nil_append, if_true, if_false, reduceIte, w0, w1, eq_true w2, sk50, sr50_9, sr50_10, sr50_11, sr50_12, sk53, sn53, sk54, sn54, sk55, sn55, sk56, sn56, c119 g4.2.1 g1.2.1, hx, bI_0, Bool.not_true, Bool.true_eq_false, in_eq (j := p) (n := 8) (by omega) (by decide), nI_clamp (n := p) (by omega), y1, y2, y3, y4, g6.2.2.2.2.1, c113 (s := sd) (k := p) (by omega) (by omega)]
        exact s0
      simp only [e43_0, e43_1, e43_4, e43_5, e43_8, e43_11, e43_12, e43_13, e43_14, e43_48, e43_49, e43_52, e43_55, e43_56, e43_57, e43_58, e43_59, e43_62, e43_65, e43_66, e43_67, e43_68, e43_69, e43_72, e43_75, e43_76, e43_77, e43_78, e43_79, e43_82, e43_85, e43_86, e43_87, e43_88, e43_89, e43_92, e43_95, e43_96, e43_99, e43_102, e43_103, e43_106, e43_107, e43_108, e43_110, true_or, or_true, true_and, and_true, Option.toList, List.cons_append, List.nil_append, if_true, if_false, reduceIte, w0, w1, eq_true w2, sk0, sr0_2, sr0_3, sr11_0, sr11_1, sr11_2, sr11_3, sk11, sk12, sn12, sk13, sn13, sk14, sn14, sk15, sn15, sk16, c31', hx, bI_0, Bool.true_eq_false, in_eq (j := p) (n := 8) (by omega) (by decide), nI_clamp (n := p) (by omega), q1, q2, q3, q4, h6.2.2.2.1, c32 (s := sd) (k := p) (by omega) (by omega)]
      exact ⟨sam_rf σ, key⟩
    by_cases w3 : w = 3
    · refine op2_q (.int (ta t p)) hI ?_
      have key : Ev 8 118 0 [some (.ref 50), some (.int (nI p)), some (.int w)] [] σ (fun r σ2 => r = some (.int (ta t p)) ∧ sam σ σ2) := by
        simp only [e118_0, e118_1, e118_2, true_or, or_true, true_and, and_true, Option.toList, List.cons_append, List.nil_append, if_true, if_false, reduceIte, sk50]
        generalize ab_wI σ 50 (upd (σ.1 50) 0 0) = τ at s0 g
        obtain ⟨g1, -, -, g4, g5, g6, -⟩ := id g
        obtain ⟨y1, y2, y3, y4⟩ := g4.2.2 p hp
        simp only [e118_0, e118_1, e118_2, e118_5, e118_6, e118_7, e118_10, e118_13, e118_14, e118_15, e118_16, e118_52, e118_53, e118_56, e118_57, e118_58, e118_59, e118_60, e118_63, e118_64, e118_65, e118_66, e118_67, e118_70, e118_71, e118_72, e118_73, e118_74, e118_77, e118_78, e118_79, e118_80, e118_81, e118_84, e118_85, e118_88, e118_91, e118_92, e118_95, e118_96, e118_97, e118_99, true_or, or_true, true_and, and_true, Option.toList, List.cons_append, List.nil_append, if_true, if_false, reduceIte, w0, w1, w2, eq_true w3, sk50, sr50_9, sr50_10, sr50_11, sr50_12, sk53, sn53, sk54, sn54, sk55, sn55, sk56, sn56, c119 g4.2.1 g1.2.1, hx, bI_0, Bool.not_true, Bool.true_eq_false, in_eq (j := p) (n := 8) (by omega) (by decide), nI_clamp (n := p) (by omega), y1, y2, y3, y4, g6.2.2.2.2.1, c113 (s := sd) (k := p) (by omega) (by omega)]
        exact s0
      simp only [e43_0, e43_1, e43_4, e43_5, e43_8, e43_11, e43_12, e43_13, e43_14, e43_48, e43_49, e43_52, e43_55, e43_56, e43_57, e43_58, e43_59, e43_62, e43_65, e43_66, e43_67, e43_68, e43_69, e43_72, e43_75, e43_76, e43_77, e43_78, e43_79, e43_82, e43_85, e43_86, e43_87, e43_88, e43_89, e43_92, e43_95, e43_96, e43_99, e43_102, e43_103, e43_106, e43_107, e43_108, e43_110, true_or, or_true, true_and, and_true, Option.toList, List.cons_append, List.nil_append, if_true, if_false, reduceIte, w0, w1, w2, eq_true w3, sk0, sr0_2, sr0_3, sr11_0, sr11_1, sr11_2, sr11_3, sk11, sk12, sn12, sk13, sn13, sk14, sn14, sk15, sn15, sk16, c31', hx, bI_0, Bool.true_eq_false, in_eq (j := p) (n := 8) (by omega) (by decide), nI_clamp (n := p) (by omega), q1, q2, q3, q4, h6.2.2.2.1, c32 (s := sd) (k := p) (by omega) (by omega)]
      exact ⟨sam_rf σ, key⟩
    by_cases w4 : w = 4
    · refine op2_q (.int (bI (sd.testBit p))) hI ?_
      have key : Ev 8 118 0 [some (.ref 50), some (.int (nI p)), some (.int w)] [] σ (fun r σ2 => r = some (.int (bI (sd.testBit p))) ∧ sam σ σ2) := by
        simp only [e118_0, e118_1, e118_2, true_or, or_true, true_and, and_true, Option.toList, List.cons_append, List.nil_append, if_true, if_false, reduceIte, sk50]
        generalize ab_wI σ 50 (upd (σ.1 50) 0 0) = τ at s0 g
        obtain ⟨g1, -, -, g4, g5, g6, -⟩ := id g
        obtain ⟨y1, y2, y3, y4⟩ := g4.2.2 p hp
        simp only [e118_0, e118_1, e118_2, e118_5, e118_6, e118_7, e118_10, e118_13, e118_14, e118_15, e118_16, e118_52, e118_53, e118_56, e118_57, e118_58, e118_59, e118_60, e118_63, e118_64, e118_65, e118_66, e118_67, e118_70, e118_71, e118_72, e118_73, e118_74, e118_77, e118_78, e118_79, e118_80, e118_81, e118_84, e118_85, e118_88, e118_91, e118_92, e118_95, e118_96, e118_97, e118_99, true_or, or_true, true_and, and_true, Option.toList, List.cons_append, List.nil_append, if_true, if_false, reduceIte, w0, w1, w2, w3, eq_true w4, sk50, sr50_9, sr50_10, sr50_11, sr50_12, sk53, sn53, sk54, sn54, sk55, sn55, sk56, sn56, c119 g4.2.1 g1.2.1, hx, bI_0, Bool.not_true, Bool.true_eq_false, in_eq (j := p) (n := 8) (by omega) (by decide), nI_clamp (n := p) (by omega), y1, y2, y3, y4, g6.2.2.2.2.1, c113 (s := sd) (k := p) (by omega) (by omega)]
        cases sd.testBit p <;> simp [bI] <;> exact s0
      simp only [e43_0, e43_1, e43_4, e43_5, e43_8, e43_11, e43_12, e43_13, e43_14, e43_48, e43_49, e43_52, e43_55, e43_56, e43_57, e43_58, e43_59, e43_62, e43_65, e43_66, e43_67, e43_68, e43_69, e43_72, e43_75, e43_76, e43_77, e43_78, e43_79, e43_82, e43_85, e43_86, e43_87, e43_88, e43_89, e43_92, e43_95, e43_96, e43_99, e43_102, e43_103, e43_106, e43_107, e43_108, e43_110, true_or, or_true, true_and, and_true, Option.toList, List.cons_append, List.nil_append, if_true, if_false, reduceIte, w0, w1, w2, w3, eq_true w4, sk0, sr0_2, sr0_3, sr11_0, sr11_1, sr11_2, sr11_3, sk11, sk12, sn12, sk13, sn13, sk14, sn14, sk15, sn15, sk16, c31', hx, bI_0, Bool.true_eq_false, in_eq (j := p) (n := 8) (by omega) (by decide), nI_clamp (n := p) (by omega), q1, q2, q3, q4, h6.2.2.2.1, c32 (s := sd) (k := p) (by omega) (by omega)]
      cases hb : sd.testBit p <;> rw [hb] at key <;> simp only [true_or, or_true, true_and, and_true, Option.toList, List.cons_append, List.nil_append, if_true, if_false, reduceIte, bI, Bool.true_eq_false, Bool.false_eq_true] at key ⊢ <;> exact ⟨sam_rf σ, key⟩
    refine op2_q (.int (-2)) hI ?_
    have key : Ev 8 118 0 [some (.ref 50), some (.int (nI p)), some (.int w)] [] σ (fun r σ2 => r = some (.int (-2)) ∧ sam σ σ2) := by
      simp only [e118_0, e118_1, e118_2, true_or, or_true, true_and, and_true, Option.toList, List.cons_append, List.nil_append, if_true, if_false, reduceIte, sk50]
      generalize ab_wI σ 50 (upd (σ.1 50) 0 0) = τ at s0 g
      obtain ⟨g1, -, -, g4, g5, g6, -⟩ := id g
      obtain ⟨y1, y2, y3, y4⟩ := g4.2.2 p hp
      simp only [e118_0, e118_1, e118_2, e118_5, e118_6, e118_7, e118_10, e118_13, e118_14, e118_15, e118_16, e118_52, e118_53, e118_56, e118_57, e118_58, e118_59, e118_60, e118_63, e118_64, e118_65, e118_66, e118_67, e118_70, e118_71, e118_72, e118_73, e118_74, e118_77, e118_78, e118_79, e118_80, e118_81, e118_84, e118_85, e118_88, e118_91, e118_92, e118_95, e118_96, e118_97, e118_99, true_or, or_true, true_and, and_true, Option.toList, List.cons_append, List.nil_append, if_true, if_false, reduceIte, w0, w1, w2, w3, w4, sk50, sr50_9, sr50_10, sr50_11, sr50_12, sk53, sn53, sk54, sn54, sk55, sn55, sk56, sn56, c119 g4.2.1 g1.2.1, hx, bI_0, Bool.not_true, Bool.true_eq_false, in_eq (j := p) (n := 8) (by omega) (by decide), nI_clamp (n := p) (by omega), y1, y2, y3, y4, g6.2.2.2.2.1, c113 (s := sd) (k := p) (by omega) (by omega)]
      exact s0
    simp only [e43_0, e43_1, e43_4, e43_5, e43_8, e43_11, e43_12, e43_13, e43_14, e43_48, e43_49, e43_52, e43_55, e43_56, e43_57, e43_58, e43_59, e43_62, e43_65, e43_66, e43_67, e43_68, e43_69, e43_72, e43_75, e43_76, e43_77, e43_78, e43_79, e43_82, e43_85, e43_86, e43_87, e43_88, e43_89, e43_92, e43_95, e43_96, e43_99, e43_102, e43_103, e43_106, e43_107, e43_108, e43_110, true_or, or_true, true_and, and_true, Option.toList, List.cons_append, List.nil_append, if_true, if_false, reduceIte, w0, w1, w2, w3, w4, sk0, sr0_2, sr0_3, sr11_0, sr11_1, sr11_2, sr11_3, sk11, sk12, sn12, sk13, sn13, sk14, sn14, sk15, sn15, sk16, c31', hx, bI_0, Bool.true_eq_false, in_eq (j := p) (n := 8) (by omega) (by decide), nI_clamp (n := p) (by omega), q1, q2, q3, q4, h6.2.2.2.1, c32 (s := sd) (k := p) (by omega) (by omega)]
    exact ⟨sam_rf σ, key⟩
  · have hx : inR x (tS t) = false := by simpa using hx
    refine op2_q (.int (-1)) hI ?_
    simp only [e43_0, e43_1, e43_4, e43_5, e43_8, e43_11, e43_12, e43_13, e43_14, e43_48, e43_49, e43_52, e43_55, e43_56, e43_57, e43_58, e43_59, e43_62, e43_65, e43_66, e43_67, e43_68, e43_69, e43_72, e43_75, e43_76, e43_77, e43_78, e43_79, e43_82, e43_85, e43_86, e43_87, e43_88, e43_89, e43_92, e43_95, e43_96, e43_99, e43_102, e43_103, e43_106, e43_107, e43_108, e43_110, true_or, or_true, true_and, and_true, Option.toList, List.cons_append, List.nil_append, if_true, if_false, reduceIte, sk0, sr0_2, sk11, c31 (d := 7) (x := x) sk11 h3.2.1 h1.2.1, hx, bI_0]
    refine ⟨sam_rf σ, ?_⟩
    simp only [e118_0, e118_1, e118_2, true_or, or_true, true_and, and_true, Option.toList, List.cons_append, List.nil_append, if_true, if_false, reduceIte, sk50]
    generalize ab_wI σ 50 (upd (σ.1 50) 0 0) = τ at s0 g
    obtain ⟨g1, -, -, g4, g5, g6, -⟩ := id g
    simp only [e118_0, e118_1, e118_2, e118_5, e118_6, e118_7, e118_10, e118_13, e118_14, e118_15, e118_16, e118_52, e118_53, e118_56, e118_57, e118_58, e118_59, e118_60, e118_63, e118_64, e118_65, e118_66, e118_67, e118_70, e118_71, e118_72, e118_73, e118_74, e118_77, e118_78, e118_79, e118_80, e118_81, e118_84, e118_85, e118_88, e118_91, e118_92, e118_95, e118_96, e118_97, e118_99, true_or, or_true, true_and, and_true, Option.toList, List.cons_append, List.nil_append, if_true, if_false, reduceIte, sk50, c119 g4.2.1 g1.2.1, hx, bI_0, Bool.not_false, Bool.true_eq_false]
    exact s0
