/-! NEED, ABOUT -/
set_option maxHeartbeats 8000000 in
theorem op_need {B : Nat} {σ : ab_St} {x : Int32} (hB : B < 90000) (hI : Inv B σ) : op2 B σ 77 [some (.ref 0), some (.int x)] 139 [some (.ref 50), some (.int x), none, none] := by
  obtain ⟨tn, tx, t, f, th, sd, la, lw, h, ⟨ac, fi, hw, hf, hth, hsd, hla, ha⟩, ks, hk⟩ := id hI
  have hst := bas_stV hB h
  obtain ⟨h1, h2, h3, h4, h5, h6, h7⟩ := id h
  have hth6 : th < 64 := hst.2.2.1
  have hP := h1.1
  have s0 : sam σ (ab_wI σ 50 (upd (σ.1 50) 0 0)) := sam_50 (by decide)
  have g := bas_sam (Nat.le_refl B) s0 h
  by_cases hx : inR x (tP t) = true
  · obtain ⟨p, hp, rfl⟩ := inR_of hx (by omega)
    cases hb : th.testBit p
    · refine op2_q (.int (-3)) hI ?_
      simp only [e77_0, e77_1, e77_4, e77_5, e77_8, e77_11, e77_12, e77_13, e77_14, e77_17, e77_20, e77_21, e77_24, e77_27, e77_29, e77_30, e77_31, e77_34, e77_35, e77_38, e77_41, e77_42, e77_43, e77_46, true_or, or_true, true_and, and_true, Option.toList, List.cons_append, List.nil_append, if_true, if_false, reduceIte, sk0, sr0_2, sr0_3, sk11, sk16, c26 (d := 7) (x := nI p) sk11 h3.1 h1.1, hx, bI_0, Bool.true_eq_false, h6.2.1, c32 (s := th) (k := p) (by omega) (by omega), hb]
      refine ⟨sam_rf σ, ?_⟩
      simp only [e139_0, e139_1, e139_2, true_or, or_true, true_and, and_true, Option.toList, List.cons_append, List.nil_append, if_true, if_false, reduceIte, sk50]
      generalize ab_wI σ 50 (upd (σ.1 50) 0 0) = τ at s0 g
      obtain ⟨g1, -, -, g4, g5, g6, -⟩ := id g
      simp only [e139_0, e139_1, e139_2, e139_5, e139_6, e139_7, e139_10, e139_13, e139_14, e139_15, e139_16, e139_19, e139_20, e139_23, e139_26, e139_28, e139_29, e139_30, e139_31, e139_32, e139_34, e139_35, e139_38, e139_41, e139_42, e139_43, e139_46, e139_47, e139_50, e139_53, e139_54, e139_57, e139_58, e139_59, e139_60, e139_63, e139_64, e139_65, e139_68, e139_69, e139_72, e139_73, e139_74, e139_75, e139_78, e139_79, e139_80, e139_81, e139_84, e139_85, e139_86, e139_87, e139_90, e139_93, e139_94, true_or, or_true, true_and, and_true, Option.toList, List.cons_append, List.nil_append, if_true, if_false, reduceIte, sk50, c117 g4.1 g1.1, hx, bI_0, Bool.not_true, Bool.true_eq_false, g6.2.2.1, c113 (s := th) (k := p) (by omega) (by omega), hb]
      exact s0
    · refine op2_q (.int (nI (itn (msS th f (f p)) 6 0))) hI ?_
      have w17 := (h6.1 p hp).1
      have hfp : f p < 100000 := by have := h5.2.2.2.2 p hp; omega
      simp only [e77_0, e77_1, e77_4, e77_5, e77_8, e77_11, e77_12, e77_13, e77_14, e77_17, e77_20, e77_21, e77_24, e77_27, e77_29, e77_30, e77_31, e77_34, e77_35, e77_38, e77_41, e77_42, e77_43, e77_46, true_or, or_true, true_and, and_true, Option.toList, List.cons_append, List.nil_append, if_true, if_false, reduceIte, sk0, sr0_2, sr0_3, sr16_0, sk11, sk16, sk17, sn17, c26 (d := 7) (x := nI p) sk11 h3.1 h1.1, hx, bI_0, Bool.true_eq_false, h6.2.1, c32 (s := th) (k := p) (by omega) (by omega), hb, in_eq (j := p) (n := 6) (by omega) (by decide), nI_clamp (n := p) (by omega), w17, c78 (d := 6) (lv := f p) stO16 hst hfp]
      refine ⟨sam_rf σ, ?_⟩
      simp only [e139_0, e139_1, e139_2, true_or, or_true, true_and, and_true, Option.toList, List.cons_append, List.nil_append, if_true, if_false, reduceIte, sk50]
      generalize ab_wI σ 50 (upd (σ.1 50) 0 0) = τ at s0 g
      obtain ⟨g1, -, -, g4, g5, g6, -⟩ := id g
      simp only [e139_0, e139_1, e139_2, e139_5, e139_6, e139_7, e139_10, e139_13, e139_14, e139_15, e139_16, e139_19, e139_20, e139_23, e139_26, e139_28, e139_29, e139_30, e139_31, e139_32, e139_34, e139_35, e139_38, e139_41, e139_42, e139_43, e139_46, e139_47, e139_50, e139_53, e139_54, e139_57, e139_58, e139_59, e139_60, e139_63, e139_64, e139_65, e139_68, e139_69, e139_72, e139_73, e139_74, e139_75, e139_78, e139_79, e139_80, e139_81, e139_84, e139_85, e139_86, e139_87, e139_90, e139_93, e139_94, true_or, or_true, true_and, and_true, Option.toList, List.cons_append, List.nil_append, if_true, if_false, reduceIte, sk50, c117 g4.1 g1.1, hx, bI_0, Bool.not_true, Bool.true_eq_false, g6.2.2.1, c113 (s := th) (k := p) (by omega) (by omega), hb]
      have w52 : ∀ q, q < tP t → τ.1 52 q = nI (f q) := fun q hq => (g6.1 q hq).2
      refine (ev_for (fun i (a : Nat) => Ev 8 139 33 [some (.ref 50), some (.int (nI p)), some (.int (nI a)), some (.int (nI i))] [] τ (fun r σ2 => r = some (.int (nI (itn (msS th f (f p)) 6 0))) ∧ sam σ σ2)) (msS th f (f p)) 0 (tP t) ?_).mpr ?_
      · intro i hi
        generalize itn (msS th f (f p)) i 0 = a
        rw [e139_33]
        have h6' : ¬ nI (tP t) ≤ nI i := nI_ge hi (by omega)
        unfold msS
        have hz : nI a + (0 : Int32) = nI a := nI_add a 0
        cases hbi : th.testBit i
        · simp only [e139_0, e139_1, e139_2, e139_5, e139_6, e139_7, e139_10, e139_13, e139_14, e139_15, e139_16, e139_19, e139_20, e139_23, e139_26, e139_28, e139_29, e139_30, e139_31, e139_32, e139_34, e139_35, e139_38, e139_41, e139_42, e139_43, e139_46, e139_47, e139_50, e139_53, e139_54, e139_57, e139_58, e139_59, e139_60, e139_63, e139_64, e139_65, e139_68, e139_69, e139_72, e139_73, e139_74, e139_75, e139_78, e139_79, e139_80, e139_81, e139_84, e139_85, e139_86, e139_87, e139_90, e139_93, e139_94, true_or, or_true, true_and, and_true, Option.toList, List.cons_append, List.nil_append, if_true, if_false, reduceIte, sk50, g4.1, g6.2.2.1, h6', c113 (s := th) (k := i) (by omega) (by omega), hbi, bI_0, nI_1, Bool.false_eq_true, hz]
        · have hfi : f i < 100000 := by have := h5.2.2.2.2 i hi; omega
          simp only [e139_0, e139_1, e139_2, e139_5, e139_6, e139_7, e139_10, e139_13, e139_14, e139_15, e139_16, e139_19, e139_20, e139_23, e139_26, e139_28, e139_29, e139_30, e139_31, e139_32, e139_34, e139_35, e139_38, e139_41, e139_42, e139_43, e139_46, e139_47, e139_50, e139_53, e139_54, e139_57, e139_58, e139_59, e139_60, e139_63, e139_64, e139_65, e139_68, e139_69, e139_72, e139_73, e139_74, e139_75, e139_78, e139_79, e139_80, e139_81, e139_84, e139_85, e139_86, e139_87, e139_90, e139_93, e139_94, true_or, or_true, true_and, and_true, Option.toList, List.cons_append, List.nil_append, if_true, if_false, reduceIte, sk50, sr50_6, sk52, sn52, g4.1, g6.2.2.1, h6', c113 (s := th) (k := i) (by omega) (by omega), hbi, bI_0, nI_1, Bool.true_eq_false, in_eq (j := i) (n := 6) (by omega) (by decide), nI_clamp (n := i) (by omega), in_eq (j := p) (n := 6) (by omega) (by decide), nI_clamp (n := p) (by omega), w52 i hi, w52 p hp, nI_leI (a := f p) (b := f i) (by omega) (by omega), hz]
          by_cases hle : f p ≤ f i
          · simp only [if_pos hle, show f p - f i = 0 by omega, Nat.add_zero]
          · simp only [if_neg hle, pk_sub (a := f p) (b := f i) (by omega), nI_add]
      · try dsimp only
        rw [e139_33]
        simp only [e139_0, e139_1, e139_2, e139_5, e139_6, e139_7, e139_10, e139_13, e139_14, e139_15, e139_16, e139_19, e139_20, e139_23, e139_26, e139_28, e139_29, e139_30, e139_31, e139_32, e139_34, e139_35, e139_38, e139_41, e139_42, e139_43, e139_46, e139_47, e139_50, e139_53, e139_54, e139_57, e139_58, e139_59, e139_60, e139_63, e139_64, e139_65, e139_68, e139_69, e139_72, e139_73, e139_74, e139_75, e139_78, e139_79, e139_80, e139_81, e139_84, e139_85, e139_86, e139_87, e139_90, e139_93, e139_94, true_or, or_true, true_and, and_true, Option.toList, List.cons_append, List.nil_append, if_true, if_false, reduceIte, sk50, g4.1]
        rw [if_pos (nI_le (Nat.le_refl _) (by omega))]
        refine ⟨?_, s0⟩
        rw [itn_stop (msS th f (f p)) 0 (tP t) 6 hP (fun i b hi => by unfold msS; rw [if_neg (fun z => by have := bit_lt h5.1 z; omega)])]
  · have hx : inR x (tP t) = false := by simpa using hx
    refine op2_q (.int (-1)) hI ?_
    simp only [e77_0, e77_1, e77_4, e77_5, e77_8, e77_11, e77_12, e77_13, e77_14, e77_17, e77_20, e77_21, e77_24, e77_27, e77_29, e77_30, e77_31, e77_34, e77_35, e77_38, e77_41, e77_42, e77_43, e77_46, true_or, or_true, true_and, and_true, Option.toList, List.cons_append, List.nil_append, if_true, if_false, reduceIte, sk0, sr0_2, sk11, c26 (d := 7) (x := x) sk11 h3.1 h1.1, hx, bI_0]
    refine ⟨sam_rf σ, ?_⟩
    simp only [e139_0, e139_1, e139_2, true_or, or_true, true_and, and_true, Option.toList, List.cons_append, List.nil_append, if_true, if_false, reduceIte, sk50]
    generalize ab_wI σ 50 (upd (σ.1 50) 0 0) = τ at s0 g
    obtain ⟨g1, -, -, g4, g5, g6, -⟩ := id g
    simp only [e139_0, e139_1, e139_2, e139_5, e139_6, e139_7, e139_10, e139_13, e139_14, e139_15, e139_16, e139_19, e139_20, e139_23, e139_26, e139_28, e139_29, e139_30, e139_31, e139_32, e139_34, e139_35, e139_38, e139_41, e139_42, e139_43, e139_46, e139_47, e139_50, e139_53, e139_54, e139_57, e139_58, e139_59, e139_60, e139_63, e139_64, e139_65, e139_68, e139_69, e139_72, e139_73, e139_74, e139_75, e139_78, e139_79, e139_80, e139_81, e139_84, e139_85, e139_86, e139_87, e139_90, e139_93, e139_94, true_or, or_true, true_and, and_true, Option.toList, List.cons_append, List.nil_append, if_true, if_false, reduceIte, sk50, c117 g4.1 g1.1, hx, bI_0, Bool.not_false, Bool.true_eq_false]
    exact s0
set_option maxHeartbeats 4000000 in
/-- the model's about, up to its table -/
theorem m_about {B tn : Nat} {tx : Nat → Nat} {t : gT} {f : Nat → Nat} {th sd : Nat} {la : Int32} {lw : Nat} {σ : ab_St} {w : Int32} {Q : Option Value → ab_St → Prop} (hB : B < 90000) (h : iBas σ B tn tx t f th sd la lw) (hQ : ∀ τ, sam σ τ → mlV τ (tP t) f th → Ev 8 111 51 [some (.ref 50), some (.int w), some (.int (nI (sm th f 6))), some (.int (nI (tP t)))] [] τ Q) : Ev 8 111 0 [some (.ref 50), some (.int w), none, none] [] σ Q := by
  have s0 : sam σ (ab_wI σ 50 (upd (σ.1 50) 0 0)) := sam_50 (by decide)
  have g := bas_sam (Nat.le_refl B) s0 h
  simp only [e111_0, e111_1, e111_2, true_or, or_true, true_and, and_true, Option.toList, List.cons_append, List.nil_append, if_true, if_false, reduceIte, sk50]
  generalize ab_wI σ 50 (upd (σ.1 50) 0 0) = τ at s0 g
  have gm := bas_mlV hB g
  have s1 := sam_bgn τ (tP t)
  have g2 := bas_sam (Nat.le_refl B) s1 g
  obtain ⟨g1, -, -, g4, g5, g6, -⟩ := id g
  have hP := g1.1
  have hth6 : th < 64 := by have := two_le _ g1.1; have := g5.1; omega
  simp only [e111_5, e111_6, true_or, or_true, true_and, and_true, Option.toList, List.cons_append, List.nil_append, if_true, if_false, reduceIte, sk50, c112 g4.1 g1.1, e111_9, e111_10, e111_11, e111_12]
  generalize bgn τ (tP t) = υ at gm s1 g2
  obtain ⟨-, -, -, k4, k5, k6, -⟩ := id g2
  have w52 : ∀ q, q < tP t → υ.1 52 q = nI (f q) := fun q hq => (k6.1 q hq).2
  refine (ev_for (fun i (a : Nat) => Ev 8 111 13 [some (.ref 50), some (.int w), some (.int (nI a)), some (.int (nI i))] [] υ Q) (smS th f) 0 (tP t) ?_).mpr ?_
  · intro i hi
    generalize itn (smS th f) i 0 = a
    rw [e111_13]
    have h6' : ¬ nI (tP t) ≤ nI i := nI_ge hi (by omega)
    unfold smS
    have hz : nI a + (0 : Int32) = nI a := nI_add a 0
    cases hbi : th.testBit i
    · simp only [e111_0, e111_1, e111_2, e111_5, e111_6, e111_9, e111_10, e111_11, e111_12, e111_14, e111_15, e111_18, e111_21, e111_22, e111_23, e111_26, e111_27, e111_30, e111_33, e111_34, e111_37, e111_38, e111_39, e111_42, e111_43, e111_44, e111_45, e111_48, e111_51, e111_52, e111_112, e111_113, e111_116, e111_117, e111_118, e111_121, e111_122, e111_123, e111_126, e111_127, e111_128, e111_131, e111_132, e111_133, e111_136, e111_137, e111_138, e111_141, e111_142, e111_143, e111_144, e111_147, e111_149, e111_152, e111_153, e111_154, e111_157, e111_158, e111_159, e111_160, e111_161, e111_164, e111_165, e111_166, e111_169, e111_170, e111_172, true_or, or_true, true_and, and_true, Option.toList, List.cons_append, List.nil_append, if_true, if_false, reduceIte, sk50, k4.1, k6.2.2.1, h6', c113 (s := th) (k := i) (by omega) (by omega), hbi, bI_0, nI_1, Bool.false_eq_true, hz]
    · simp only [e111_0, e111_1, e111_2, e111_5, e111_6, e111_9, e111_10, e111_11, e111_12, e111_14, e111_15, e111_18, e111_21, e111_22, e111_23, e111_26, e111_27, e111_30, e111_33, e111_34, e111_37, e111_38, e111_39, e111_42, e111_43, e111_44, e111_45, e111_48, e111_51, e111_52, e111_112, e111_113, e111_116, e111_117, e111_118, e111_121, e111_122, e111_123, e111_126, e111_127, e111_128, e111_131, e111_132, e111_133, e111_136, e111_137, e111_138, e111_141, e111_142, e111_143, e111_144, e111_147, e111_149, e111_152, e111_153, e111_154, e111_157, e111_158, e111_159, e111_160, e111_161, e111_164, e111_165, e111_166, e111_169, e111_170, e111_172, true_or, or_true, true_and, and_true, Option.toList, List.cons_append, List.nil_append, if_true, if_false, reduceIte, sk50, sr50_6, sk52, sn52, k4.1, k6.2.2.1, h6', c113 (s := th) (k := i) (by omega) (by omega), hbi, bI_0, nI_1, Bool.true_eq_false, in_eq (j := i) (n := 6) (by omega) (by decide), nI_clamp (n := i) (by omega), w52 i hi, nI_add]
  · try dsimp only
    rw [e111_13]
    simp only [e111_14, e111_15, e111_18, true_or, or_true, true_and, and_true, Option.toList, List.cons_append, List.nil_append, if_true, if_false, reduceIte, sk50, k4.1]
    rw [if_pos (nI_le (Nat.le_refl _) (by omega))]
    have : itn (smS th f) (tP t) 0 = sm th f 6 := (sm_stop g5.1 hP).symm
    rw [this]
    exact hQ υ (sam_tr s0 s1) gm
