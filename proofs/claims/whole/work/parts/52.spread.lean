/-! THE CLASS' LOOK AHEAD -/
theorem c64 {d : Nat} {t : gT} {l : Int32} {σ : ab_St} {Q : Option Value → ab_St → Prop} (ht : tok t) (hl : laok t l) : Ev d 64 0 [some (.int l)] [] σ Q = Q (some (.int (nI (2 ^ lb l)))) σ := by
  have := ht.2.1
  rcases hl with rfl | ⟨k, hk, rfl⟩
  · simp only [e64_0, e64_1, e64_3, e64_6, e64_9, e64_12, e64_13, e64_14, e64_15, true_or, or_true, true_and, and_true, Option.toList, List.cons_append, List.nil_append, if_true, if_false, reduceIte]
    rfl
  · have e : (nI k = -9) = False := eq_false (nI_m9 (by omega))
    simp only [e64_0, e64_1, e64_3, e64_6, e64_9, e64_12, e64_13, e64_14, e64_15, true_or, or_true, true_and, and_true, Option.toList, List.cons_append, List.nil_append, if_true, if_false, reduceIte, e, nI_shl (k := k) (by omega), lb_n (k := k) (by omega)]
/-- canFollow -/
theorem c67 {d s v : Nat} {t : gT} {σ : ab_St} {Q : Option Value → ab_St → Prop} (ht : tok t) (htd : tdV σ 11 t) (hs : s < tS t) (hv : v < 2 ^ 31) : Ev (d + 1) 67 0 [some (.ref 11), some (.int (nI s)), some (.int (nI v)), none] [] σ Q = Q (some (.int (bI (decide (ta t s = -9) || v.testBit (ta t s).toNatClampNeg)))) σ := by
  have h8 := ht.2.1
  obtain ⟨d1, d2, d3⟩ := htd
  rw [sr11_3] at d3
  rcases (ht.2.2 s hs).2.2.2.2 with e | ⟨a, ha, e⟩
  · simp only [e67_0, e67_1, e67_4, e67_5, e67_6, e67_7, e67_8, e67_10, e67_13, e67_14, e67_15, e67_18, e67_21, e67_22, e67_25, e67_26, true_or, or_true, true_and, and_true, Option.toList, List.cons_append, List.nil_append, if_true, if_false, reduceIte, sk11, sr11_3, sk15, sn15, in_eq (j := s) (n := 8) (by omega) (by decide), nI_clamp (n := s) (by omega), (d3 s hs).2.2.2, e, decide_true, Bool.true_or, bI]
  · have e9 : (nI a = -9) = False := eq_false (nI_m9 (by omega))
    simp only [e67_0, e67_1, e67_4, e67_5, e67_6, e67_7, e67_8, e67_10, e67_13, e67_14, e67_15, e67_18, e67_21, e67_22, e67_25, e67_26, true_or, or_true, true_and, and_true, Option.toList, List.cons_append, List.nil_append, if_true, if_false, reduceIte, sk11, sr11_3, sk15, sn15, in_eq (j := s) (n := 8) (by omega) (by decide), nI_clamp (n := s) (by omega), nI_clamp (n := a) (by omega), (d3 s hs).2.2.2, e, e9, decide_false, Bool.false_or, c32 (s := v) (k := a) hv (by omega), bI_0]
    cases v.testBit a <;> simp [bI]
set_option maxHeartbeats 8000000 in
/-- openAt -/
theorem c65 {d k v : Nat} {t : gT} {f : Nat → Nat} {th sd : Nat} {σ : ab_St} {Q : Option Value → ab_St → Prop} (ht : tok t) (htd : tdV σ 11 t) (h17 : ∀ p, p < tP t → σ.1 17 p = nI (f p)) (h161 : σ.1 16 1 = nI th) (hth : th < 2 ^ tP t) (h162 : σ.1 16 2 = nI sd) (hsd : sd < 256) (hk : k < 256) (hf : ∀ p, p < tP t → f p ≤ 90000) (h35 : σ.1 35 k = nI v) (hv : v < 512) (hQ : ∀ τ, ch [33, 34] σ τ → Q (some (.int (nI (opn t f th sd k v)))) τ) :
    Ev (d + 3) 65 0 [some (.ref 31), some (.ref 11), some (.ref 16), some (.int (nI k)), none, none, none, none, none] [] σ Q := by
  have h8 := ht.2.1
  have h6 := ht.1
  have hth64 : th < 64 := Nat.lt_of_lt_of_le hth (two_le _ h6)
  simp only [e65_0, e65_1, e65_4, e65_5, e65_6, e65_7, true_or, or_true, true_and, and_true, Option.toList, List.cons_append, List.nil_append, if_true, if_false, reduceIte, sk31, sr31_0, sk32]
  refine c66 (c := 33) (w := 34) sk32 sr32_0 sk33 sr33_0 sk34 sn34 (by decide) (by decide) ht htd h17 h161 hth h162 hsd hk hf (fun τ cτ => ?_)
  simp only [e65_10, e65_12, e65_13, e65_15, e65_16, true_or, or_true, true_and, and_true, Option.toList, List.cons_append, List.nil_append, if_true, if_false, reduceIte]
  have htd' : tdV τ 11 t := tdV_ag htd (fun c hc => cτ.1 c (by revert c; decide))
  have r35 : τ.1 35 k = nI v := by rw [cτ.1 35 (by decide)]; exact h35
  have r161 : τ.1 16 1 = nI th := by rw [cτ.1 16 (by decide)]; exact h161
  have key : ∀ (m i : Nat) (l7 l8 : Option Value), i + m = tS t → Ev (d + 2 + 1) 65 18 [some (.ref 31), some (.ref 11), some (.ref 16), some (.int (nI k)), some (.int (nI (lst th (fwd t f sd k)))), some (.int (nI (sof i (fun s => !k.testBit s && (if ta t s = -9 then (lst th (fwd t f sd k)).testBit (tw t s) else th.testBit (tw t s) && v.testBit (ta t s).toNatClampNeg))))), some (.int (nI i)), l7, l8] [] τ Q := by
    intro m
    induction m with
    | zero =>
      intro i l7 l8 hi
      have hi2 : i = tS t := by omega
      subst hi2
      rw [e65_18]
      have hge : (nI (tS t) ≤ nI (tS t)) = True := eq_true (nI_le (Nat.le_refl _) (by omega))
      simp only [e65_20, e65_21, e65_24, e65_121, e65_123, true_or, or_true, true_and, and_true, Option.toList, List.cons_append, List.nil_append, if_true, if_false, reduceIte, sk11, htd'.2.1, hge]
      exact hQ τ cτ
    | succ m ih =>
      intro i l7 l8 hi
      have his : i < tS t := by omega
      have hge : (nI (tS t) ≤ nI i) = False := eq_false (nI_ge his (by omega))
      have d3 := htd'.2.2 i his
      rw [sr11_0, sr11_1, sr11_2, sr11_3] at d3
      have hw := (ht.2.2 i his).1
      have hL := lst_lt th (fwd t f sd k)
      have c67' := fun Q => c67 (d := d + 1) (s := i) (v := v) (σ := τ) (Q := Q) ht htd' his (by omega)
      have hso := sof_lt i (fun s => !k.testBit s && (if ta t s = -9 then (lst th (fwd t f sd k)).testBit (tw t s) else th.testBit (tw t s) && v.testBit (ta t s).toNatClampNeg))
      have hso2 : (2 : Nat) ^ i ≤ 256 := two_le8 i (by omega)
      have ih' := ih (i + 1)
      have hstep : sof (i + 1) (fun s => !k.testBit s && (if ta t s = -9 then (lst th (fwd t f sd k)).testBit (tw t s) else th.testBit (tw t s) && v.testBit (ta t s).toNatClampNeg)) = if (!k.testBit i && (if ta t i = -9 then (lst th (fwd t f sd k)).testBit (tw t i) else th.testBit (tw t i) && v.testBit (ta t i).toNatClampNeg)) = true then sof i (fun s => !k.testBit s && (if ta t s = -9 then (lst th (fwd t f sd k)).testBit (tw t s) else th.testBit (tw t s) && v.testBit (ta t s).toNatClampNeg)) ||| 2 ^ i else sof i (fun s => !k.testBit s && (if ta t s = -9 then (lst th (fwd t f sd k)).testBit (tw t s) else th.testBit (tw t s) && v.testBit (ta t s).toNatClampNeg)) := rfl
      rw [hstep] at ih'
      generalize sof i (fun s => !k.testBit s && (if ta t s = -9 then (lst th (fwd t f sd k)).testBit (tw t s) else th.testBit (tw t s) && v.testBit (ta t s).toNatClampNeg)) = o at ih' hso ⊢
      rw [e65_18]
      by_cases e9 : ta t i = -9
      · simp only [if_pos e9] at ih'
        cases b1 : (lst th (fwd t f sd k)).testBit (tw t i)
        · simp only [e65_20, e65_21, e65_24, e65_27, e65_28, e65_31, e65_33, e65_34, e65_36, e65_37, e65_40, e65_42, e65_43, e65_45, e65_48, e65_50, e65_52, e65_55, e65_58, e65_59, e65_62, e65_64, e65_67, e65_70, e65_71, e65_73, e65_74, e65_77, e65_78, e65_79, e65_82, e65_85, e65_86, e65_89, e65_90, e65_92, e65_94, e65_97, e65_98, e65_100, e65_103, e65_106, e65_108, e65_109, e65_111, e65_112, e65_113, e65_115, e65_118, true_or, or_true, true_and, and_true, Option.toList, List.cons_append, List.nil_append, if_true, if_false, reduceIte, sk11, sr11_0, sr11_3, sk12, sn12, sk15, sn15, htd'.2.1, hge, in_eq (j := i) (n := 8) (by omega) (by decide), nI_clamp (n := i) (by omega), d3.1, d3.2.2.2, e9, c32 (s := lst th (fwd t f sd k)) (k := tw t i) (by omega) (by omega), b1, bI_0, nI_1]
          simp only [b1, Bool.and_false, Bool.false_eq_true, if_false] at ih'
          exact ih' _ _ (by omega)
        · cases b2 : k.testBit i
          · simp only [e65_20, e65_21, e65_24, e65_27, e65_28, e65_31, e65_33, e65_34, e65_36, e65_37, e65_40, e65_42, e65_43, e65_45, e65_48, e65_50, e65_52, e65_55, e65_58, e65_59, e65_62, e65_64, e65_67, e65_70, e65_71, e65_73, e65_74, e65_77, e65_78, e65_79, e65_82, e65_85, e65_86, e65_89, e65_90, e65_92, e65_94, e65_97, e65_98, e65_100, e65_103, e65_106, e65_108, e65_109, e65_111, e65_112, e65_113, e65_115, e65_118, true_or, or_true, true_and, and_true, Option.toList, List.cons_append, List.nil_append, if_true, if_false, reduceIte, sk11, sr11_0, sr11_3, sk12, sn12, sk15, sn15, htd'.2.1, hge, in_eq (j := i) (n := 8) (by omega) (by decide), nI_clamp (n := i) (by omega), d3.1, d3.2.2.2, e9, c32 (s := lst th (fwd t f sd k)) (k := tw t i) (by omega) (by omega), b1, bI_0, Bool.true_eq_false, c32 (s := k) (k := i) (by omega) (by omega), b2, nI_set (a := o) (k := i) (by omega) (by omega), nI_1]
            simp only [b1, b2, Bool.and_self, Bool.not_false, if_true] at ih'
            exact ih' _ _ (by omega)
          · simp only [e65_20, e65_21, e65_24, e65_27, e65_28, e65_31, e65_33, e65_34, e65_36, e65_37, e65_40, e65_42, e65_43, e65_45, e65_48, e65_50, e65_52, e65_55, e65_58, e65_59, e65_62, e65_64, e65_67, e65_70, e65_71, e65_73, e65_74, e65_77, e65_78, e65_79, e65_82, e65_85, e65_86, e65_89, e65_90, e65_92, e65_94, e65_97, e65_98, e65_100, e65_103, e65_106, e65_108, e65_109, e65_111, e65_112, e65_113, e65_115, e65_118, true_or, or_true, true_and, and_true, Option.toList, List.cons_append, List.nil_append, if_true, if_false, reduceIte, sk11, sr11_0, sr11_3, sk12, sn12, sk15, sn15, htd'.2.1, hge, in_eq (j := i) (n := 8) (by omega) (by decide), nI_clamp (n := i) (by omega), d3.1, d3.2.2.2, e9, c32 (s := lst th (fwd t f sd k)) (k := tw t i) (by omega) (by omega), b1, bI_0, Bool.true_eq_false, c32 (s := k) (k := i) (by omega) (by omega), b2, nI_1]
            simp only [b1, b2, Bool.and_true, Bool.not_true, Bool.false_eq_true, if_false] at ih'
            exact ih' _ _ (by omega)
      · simp only [if_neg e9] at ih'
        have e9' : (ta t i = -9) = False := eq_false e9
        cases b0 : th.testBit (tw t i)
        · simp only [e65_20, e65_21, e65_24, e65_27, e65_28, e65_31, e65_33, e65_34, e65_36, e65_37, e65_40, e65_42, e65_43, e65_45, e65_48, e65_50, e65_52, e65_55, e65_58, e65_59, e65_62, e65_64, e65_67, e65_70, e65_71, e65_73, e65_74, e65_77, e65_78, e65_79, e65_82, e65_85, e65_86, e65_89, e65_90, e65_92, e65_94, e65_97, e65_98, e65_100, e65_103, e65_106, e65_108, e65_109, e65_111, e65_112, e65_113, e65_115, e65_118, true_or, or_true, true_and, and_true, Option.toList, List.cons_append, List.nil_append, if_true, if_false, reduceIte, sk11, sk16, sr11_0, sr11_3, sk12, sn12, sk15, sn15, htd'.2.1, hge, in_eq (j := i) (n := 8) (by omega) (by decide), nI_clamp (n := i) (by omega), d3.1, d3.2.2.2, e9', r161, c32 (s := th) (k := tw t i) (by omega) (by omega), b0, bI_0, nI_1]
          simp only [b0, Bool.and_false, Bool.false_and, Bool.false_eq_true, if_false] at ih'
          exact ih' _ _ (by omega)
        · have ein := in_eq (j := k) (n := 256) (by omega) (by decide)
          have ecl := nI_clamp (n := k) (by omega)
          cases b1 : v.testBit (ta t i).toNatClampNeg
          · simp only [e65_20, e65_21, e65_24, e65_27, e65_28, e65_31, e65_33, e65_34, e65_36, e65_37, e65_40, e65_42, e65_43, e65_45, e65_48, e65_50, e65_52, e65_55, e65_58, e65_59, e65_62, e65_64, e65_67, e65_70, e65_71, e65_73, e65_74, e65_77, e65_78, e65_79, e65_82, e65_85, e65_86, e65_89, e65_90, e65_92, e65_94, e65_97, e65_98, e65_100, e65_103, e65_106, e65_108, e65_109, e65_111, e65_112, e65_113, e65_115, e65_118, true_or, or_true, true_and, and_true, Option.toList, List.cons_append, List.nil_append, if_true, if_false, reduceIte, sk11, sk16, sk31, sr31_1, sk35, sn35, sr11_0, sr11_3, sk12, sn12, sk15, sn15, htd'.2.1, hge, in_eq (j := i) (n := 8) (by omega) (by decide), nI_clamp (n := i) (by omega), ein, ecl, r35, d3.1, d3.2.2.2, e9', r161, c32 (s := th) (k := tw t i) (by omega) (by omega), b0, c67', b1, decide_false, Bool.or_false, Bool.true_eq_false, bI_0, nI_1]
            simp only [b1, Bool.and_false, Bool.false_eq_true, if_false] at ih'
            exact ih' _ _ (by omega)
          · cases b2 : k.testBit i
            · simp only [e65_20, e65_21, e65_24, e65_27, e65_28, e65_31, e65_33, e65_34, e65_36, e65_37, e65_40, e65_42, e65_43, e65_45, e65_48, e65_50, e65_52, e65_55, e65_58, e65_59, e65_62, e65_64, e65_67, e65_70, e65_71, e65_73, e65_74, e65_77, e65_78, e65_79, e65_82, e65_85, e65_86, e65_89, e65_90, e65_92, e65_94, e65_97, e65_98, e65_100, e65_103, e65_106, e65_108, e65_109, e65_111, e65_112, e65_113, e65_115, e65_118, true_or, or_true, true_and, and_true, Option.toList, List.cons_append, List.nil_append, if_true, if_false, reduceIte, sk11, sk16, sk31, sr31_1, sk35, sn35, sr11_0, sr11_3, sk12, sn12, sk15, sn15, htd'.2.1, hge, in_eq (j := i) (n := 8) (by omega) (by decide), nI_clamp (n := i) (by omega), ein, ecl, r35, d3.1, d3.2.2.2, e9', r161, c32 (s := th) (k := tw t i) (by omega) (by omega), b0, c67', b1, decide_false, Bool.or_true, Bool.true_eq_false, bI_0, c32 (s := k) (k := i) (by omega) (by omega), b2, nI_set (a := o) (k := i) (by omega) (by omega), nI_1, show ((1 : Int32) = 0) = False from eq_false (by decide)]
              simp only [b0, b1, b2, Bool.and_self, Bool.not_false, if_true] at ih'
              exact ih' _ _ (by omega)
            · simp only [e65_20, e65_21, e65_24, e65_27, e65_28, e65_31, e65_33, e65_34, e65_36, e65_37, e65_40, e65_42, e65_43, e65_45, e65_48, e65_50, e65_52, e65_55, e65_58, e65_59, e65_62, e65_64, e65_67, e65_70, e65_71, e65_73, e65_74, e65_77, e65_78, e65_79, e65_82, e65_85, e65_86, e65_89, e65_90, e65_92, e65_94, e65_97, e65_98, e65_100, e65_103, e65_106, e65_108, e65_109, e65_111, e65_112, e65_113, e65_115, e65_118, true_or, or_true, true_and, and_true, Option.toList, List.cons_append, List.nil_append, if_true, if_false, reduceIte, sk11, sk16, sk31, sr31_1, sk35, sn35, sr11_0, sr11_3, sk12, sn12, sk15, sn15, htd'.2.1, hge, in_eq (j := i) (n := 8) (by omega) (by decide), nI_clamp (n := i) (by omega), ein, ecl, r35, d3.1, d3.2.2.2, e9', r161, c32 (s := th) (k := tw t i) (by omega) (by omega), b0, c67', b1, decide_false, Bool.or_true, Bool.true_eq_false, bI_0, c32 (s := k) (k := i) (by omega) (by omega), b2, nI_1, show ((1 : Int32) = 0) = False from eq_false (by decide)]
              simp only [b2, Bool.not_true, Bool.false_and, Bool.false_eq_true, if_false] at ih'
              exact ih' _ _ (by omega)
  exact key (tS t) 0 none none (by omega)
