/-! SAYINGS, PARTS -/
set_option maxHeartbeats 4000000 in
/-- isAnswered -/
theorem c109 {d S k : Nat} {a : Nat → Int32} {τ : ab_St} {Q : Option Value → ab_St → Prop} (v19 : τ.1 50 19 = nI S) (hS : S ≤ 8) (v61 : ∀ s, s < S → τ.1 61 s = a s) {c : Bool} (hc : c = true ↔ ∃ s, s < S ∧ a s = nI k) : Ev d 109 0 [some (.ref 50), some (.int (nI k)), none, none] [] τ Q = Q (some (.int (bI c))) τ := by
  simp only [e109_0, e109_1, e109_2, e109_3]
  refine (ev_for (fun i (b : Bool) => Ev d 109 4 [some (.ref 50), some (.int (nI k)), some (.int (bI b)), some (.int (nI i))] [] τ Q) (fun i b => b || decide (a i = nI k)) false S ?_).trans ?_
  · intro i hi
    generalize itn (fun i b => b || decide (a i = nI k)) i false = b
    rw [e109_4]
    have hge : (nI S ≤ nI i) = False := eq_false (nI_ge hi (by omega))
    simp only [e109_0, e109_1, e109_2, e109_3, e109_5, e109_6, e109_9, e109_12, e109_13, e109_16, e109_17, e109_20, e109_21, e109_22, e109_23, e109_26, e109_27, e109_30, e109_31, e109_32, e109_35, e109_38, e109_39, true_or, or_true, true_and, and_true, Option.toList, List.cons_append, List.nil_append, if_true, if_false, reduceIte, sk50, sr50_23, sk61, sn61, v19, hge, bI_0, in_eq (j := i) (n := 8) (by omega) (by decide), nI_clamp (n := i) (by omega), v61 i hi, nI_1]
    cases b
    · by_cases e : a i = nI k
      · simp [e, bI]
      · simp [e, bI]
    · simp [bI]
  · rw [e109_4]
    have hge : (nI S ≤ nI S) = True := eq_true (nI_le (Nat.le_refl S) (by omega))
    simp only [e109_0, e109_1, e109_2, e109_3, e109_5, e109_6, e109_9, e109_12, e109_13, e109_16, e109_17, e109_20, e109_21, e109_22, e109_23, e109_26, e109_27, e109_30, e109_31, e109_32, e109_35, e109_38, e109_39, true_or, or_true, true_and, and_true, Option.toList, List.cons_append, List.nil_append, if_true, if_false, reduceIte, sk50, v19, hge, bI_01]
    have key : ∀ n, itn (fun i b => b || decide (a i = nI k)) n false = true ↔ ∃ s, s < n ∧ a s = nI k := by
      intro n
      induction n with
      | zero => simp [itn]
      | succ n ih =>
        show (itn (fun i b => b || decide (a i = nI k)) n false || decide (a n = nI k)) = true ↔ _
        rw [Bool.or_eq_true, ih, decide_eq_true_eq]
        constructor
        · rintro (⟨s, q1, q2⟩ | q)
          · exact ⟨s, by omega, q2⟩
          · exact ⟨n, by omega, q⟩
        · rintro ⟨s, q1, q2⟩
          by_cases e : s = n
          · subst e; exact Or.inr q2
          · exact Or.inl ⟨s, by omega, q2⟩
    have hcc : itn (fun i b => b || decide (a i = nI k)) S false = c := Bool.eq_iff_iff.mpr ((key S).trans hc.symm)
    rw [hcc]
set_option maxHeartbeats 16000000 in
/-- readSaying -/
theorem c108 {d i tn P S : Nat} {w z v : Nat → Nat} {a : Nat → Int32} {f : Nat → Nat} {th lw an : Nat} {tx : Nat → Nat} {σ : ab_St} {Q : Option Value → ab_St → Prop} (hx : mTx σ tn tx) (hi : i ≤ tn) (v3 : σ.1 50 3 = nI i) (hI : pI (5, (P, S, w, z, v, a), f, th, lw, an)) (hR : RM σ (2, (P, S, w, z, v, a), f, th, lw, an)) (hQ : prt Q σ tx tn i (5, (P, S, w, z, v, a), f, th, lw, an)) : Ev (d + 2) 108 0 [some (.ref 50), none, none, none, none] [] σ Q := by
  obtain ⟨hQ0, hQ1⟩ := hQ
  obtain ⟨b1, b2, b3, b4, b5, b6⟩ := hR
  have hSP := hI.2.2.2.2.1 (by decide)
  have hP6 : P ≤ 6 := hI.2.1
  have eP : nI P - 1 = nI (P - 1) := pk_sub (a := P) (b := 1) (by omega)
  have end5 : ∀ (j : Nat) (p : pS) (τ : ab_St), j ≤ tn → chP σ τ → τ.1 50 3 = nI j → p.1 ≠ 2 → (j < tn → pst p (tx j) = none) → prn tx tn (tn - i) i (5, (P, S, w, z, v, a), f, th, lw, an) = prn tx tn (tn - j) j p → Q (some (.int 0)) τ := by
    intro j p τ hj hc h3 hp hn he
    refine hQ0 j τ hj hc h3 ?_
    rw [he]
    by_cases hl : j < tn
    · rw [prn_at hl, hn hl]
    · rw [prn_tn (by omega)]
      dsimp only
      rw [if_neg hp]
      congr 1
      omega
  simp only [e108_0, e108_1, e108_2, e108_3, e108_6, e108_7, e108_8, true_or, or_true, true_and, and_true, Option.toList, List.cons_append, List.nil_append, if_true, if_false, reduceIte, sk50, b2, eP]
  refine c105 (lo := 0) (hi := P - 1) hx hi v3 (by decide) (by omega) (fun hl1 g1 g2 => ?_) (fun hn => ?_)
  · have hs1 : pst (5, (P, S, w, z, v, a), f, th, lw, an) (tx i) = some (6, (P, S, uN w S (tx i - 48), z, v, a), f, th, lw, an) := by simp [pst]; omega
    have I6 := pI_step hI hs1
    have r6 : prn tx tn (tn - i) i (5, (P, S, w, z, v, a), f, th, lw, an) = prn tx tn (tn - (i + 1)) (i + 1) (6, (P, S, uN w S (tx i - 48), z, v, a), f, th, lw, an) := by rw [prn_at hl1, hs1]
    have cA : chP σ (ab_wI σ 50 (upd (σ.1 50) 3 (nI (i + 1)))) := chP_50 (chP_rf σ) (by decide)
    simp only [e108_11, e108_12, e108_13, e108_15, e108_23, e108_24, e108_25, e108_27, true_or, or_true, true_and, and_true, Option.toList, List.cons_append, List.nil_append, if_true, if_false, reduceIte, sk50, m9_ne (n := tx i - 48) (by omega)]
    generalize hα : ab_wI σ 50 (upd (σ.1 50) 3 (nI (i + 1))) = α at cA
    have α50 : α.1 50 = upd (σ.1 50) 3 (nI (i + 1)) := by rw [← hα, wI_eq]
    refine c105 (lo := 1) (hi := 9) (i := i + 1) (mTx_ch hx cA) (by omega) (by rw [α50, upd_eq]) (by decide) (by decide) (fun hl2 g3 g4 => ?_) (fun hn => ?_)
    · have hs2 : pst (6, (P, S, uN w S (tx i - 48), z, v, a), f, th, lw, an) (tx (i + 1)) = some (7, (P, S, uN w S (tx i - 48), uN z S (tx (i + 1) - 48), v, a), f, th, lw, an) := by simp [pst]; omega
      have I7 := pI_step I6 hs2
      have r7 : prn tx tn (tn - i) i (5, (P, S, w, z, v, a), f, th, lw, an) = prn tx tn (tn - (i + 2)) (i + 2) (7, (P, S, uN w S (tx i - 48), uN z S (tx (i + 1) - 48), v, a), f, th, lw, an) := by rw [r6, prn_at hl2, hs2]
      have cB : chP σ (ab_wI α 50 (upd (α.1 50) 3 (nI (i + 1 + 1)))) := chP_50 cA (by decide)
      simp only [e108_30, e108_31, e108_32, e108_34, e108_42, e108_43, e108_44, e108_46, true_or, or_true, true_and, and_true, Option.toList, List.cons_append, List.nil_append, if_true, if_false, reduceIte, sk50, m9_ne (n := tx (i + 1) - 48) (by omega)]
      generalize hβ : ab_wI α 50 (upd (α.1 50) 3 (nI (i + 1 + 1))) = β at cB
      have β50 : β.1 50 = upd (upd (σ.1 50) 3 (nI (i + 1))) 3 (nI (i + 1 + 1)) := by rw [← hβ, wI_eq, α50]
      refine c105 (lo := 0) (hi := 9) (i := i + 2) (mTx_ch hx cB) (by omega) (by rw [β50, upd_eq]) (by decide) (by decide) (fun hl3 g5 g6 => ?_) (fun hn => ?_)
      · have hs3 : pst (7, (P, S, uN w S (tx i - 48), uN z S (tx (i + 1) - 48), v, a), f, th, lw, an) (tx (i + 2)) = some (8, (P, S, uN w S (tx i - 48), uN z S (tx (i + 1) - 48), uN v S (tx (i + 2) - 48), a), f, th, lw, an) := by simp [pst]; omega
        have I8 := pI_step I7 hs3
        have r8 : prn tx tn (tn - i) i (5, (P, S, w, z, v, a), f, th, lw, an) = prn tx tn (tn - (i + 3)) (i + 3) (8, (P, S, uN w S (tx i - 48), uN z S (tx (i + 1) - 48), uN v S (tx (i + 2) - 48), a), f, th, lw, an) := by rw [r7, prn_at hl3, hs3]
        have cC : chP σ (ab_wI β 50 (upd (β.1 50) 3 (nI (i + 2 + 1)))) := chP_50 cB (by decide)
        generalize hγ : ab_wI β 50 (upd (β.1 50) 3 (nI (i + 2 + 1))) = γ at cC
        have γ50 : γ.1 50 = upd (upd (upd (σ.1 50) 3 (nI (i + 1))) 3 (nI (i + 1 + 1))) 3 (nI (i + 2 + 1)) := by rw [← hγ, wI_eq, β50]
        have xC := mTx_ch hx cC
        have p3 : γ.1 50 3 = nI (i + 3) := by rw [γ50, upd_eq]
        have p19 : γ.1 50 19 = nI S := by rw [γ50]; simp only [wI_get, upd_get, Nat.reduceEqDiff, reduceIte, if_true, if_false]; exact b4
        by_cases hl4 : i + 3 < tn
        · have hne : (nI (i + 3) = nI tn) = False := eq_false (fun e => by have := nI_inj (by have := hx.1; omega) (by have := hx.1; omega) e; omega)
          have xt := xC.2.2 (i + 3) hl4
          have hx64 := hx.1
          have hbt : tx (i + 3) < 256 := xt.1
          have fin : ∀ (x : Int32) (p2 : pS), p2 = (2, (P, S + 1, uN w S (tx i - 48), uN z S (tx (i + 1) - 48), uN v S (tx (i + 2) - 48), upd a S x), f, th, lw, p2.2.2.2.2.2) → pst (8, (P, S, uN w S (tx i - 48), uN z S (tx (i + 1) - 48), uN v S (tx (i + 2) - 48), a), f, th, lw, an) (tx (i + 3)) = some p2 → Ev (d + 2) 108 144 [some (.ref 50), some (.int (nI (tx i - 48))), some (.int (nI (tx (i + 1) - 48))), some (.int (nI (tx (i + 2) - 48))), some (.int x)] [] γ Q := by
            intro x p2 hp2 hs4
            have I2 := pI_step I8 hs4
            simp only [e108_144, e108_145, e108_146, e108_149, e108_150, e108_151, e108_154, e108_155, e108_158, e108_159, e108_162, e108_163, e108_164, e108_165, e108_168, e108_169, e108_172, e108_173, e108_174, e108_175, e108_178, e108_179, e108_182, e108_183, e108_184, e108_185, e108_188, e108_189, e108_192, e108_194, e108_195, e108_196, e108_197, e108_200, e108_201, e108_202, e108_205, e108_206, true_or, or_true, true_and, and_true, Option.toList, List.cons_append, List.nil_append, if_true, if_false, reduceIte, wI_get, upd_get, Nat.reduceEqDiff, reduceIte, if_true, if_false, sk50, sr50_20, sr50_21, sr50_22, sr50_23, sk58, sn58, sk59, sn59, sk60, sn60, sk61, sn61, p3, p19, in_eq (j := S) (n := 8) hSP.1 (by decide), nI_clamp (n := S) (by omega), nI_1]
            generalize hω : ab_wI (ab_wI (ab_wI (ab_wI (ab_wI (ab_wI γ 50 (upd (γ.1 50) 3 (nI (i + 3 + 1)))) 58 (upd (γ.1 58) S (nI (tx i - 48)))) 59 (upd (γ.1 59) S (nI (tx (i + 1) - 48)))) 60 (upd (γ.1 60) S (nI (tx (i + 2) - 48)))) 61 (upd (γ.1 61) S x)) 50 (upd (upd (γ.1 50) 3 (nI (i + 3 + 1))) 19 (nI (S + 1))) = ω
            have o50 : ω.1 50 = upd (upd (γ.1 50) 3 (nI (i + 3 + 1))) 19 (nI (S + 1)) := by rw [← hω]; simp only [wI_get, upd_get, Nat.reduceEqDiff, reduceIte, if_true, if_false]
            have o58 : ω.1 58 = upd (σ.1 58) S (nI (tx i - 48)) := by rw [← hω]; simp only [wI_get, upd_get, Nat.reduceEqDiff, reduceIte, if_true, if_false]; rw [← hγ, ← hβ, ← hα]; simp only [wI_get, upd_get, Nat.reduceEqDiff, reduceIte, if_true, if_false]
            have o59 : ω.1 59 = upd (σ.1 59) S (nI (tx (i + 1) - 48)) := by rw [← hω]; simp only [wI_get, upd_get, Nat.reduceEqDiff, reduceIte, if_true, if_false]; rw [← hγ, ← hβ, ← hα]; simp only [wI_get, upd_get, Nat.reduceEqDiff, reduceIte, if_true, if_false]
            have o60 : ω.1 60 = upd (σ.1 60) S (nI (tx (i + 2) - 48)) := by rw [← hω]; simp only [wI_get, upd_get, Nat.reduceEqDiff, reduceIte, if_true, if_false]; rw [← hγ, ← hβ, ← hα]; simp only [wI_get, upd_get, Nat.reduceEqDiff, reduceIte, if_true, if_false]
            have o61 : ω.1 61 = upd (σ.1 61) S x := by rw [← hω]; simp only [wI_get, upd_get, Nat.reduceEqDiff, reduceIte, if_true, if_false]; rw [← hγ, ← hβ, ← hα]; simp only [wI_get, upd_get, Nat.reduceEqDiff, reduceIte, if_true, if_false]
            have o57 : ω.1 57 = σ.1 57 := by rw [← hω]; simp only [wI_get, upd_get, Nat.reduceEqDiff, reduceIte, if_true, if_false]; rw [← hγ, ← hβ, ← hα]; simp only [wI_get, upd_get, Nat.reduceEqDiff, reduceIte, if_true, if_false]
            have co : chP σ ω := by
              rw [← hω]
              have q1 := chP_50 (j := 3) (x := nI (i + 3 + 1)) cC (by decide)
              have q2 := chP_w (c := 58) (g := upd (γ.1 58) S (nI (tx i - 48))) q1 (by decide)
              have q3 := chP_w (c := 59) (g := upd (γ.1 59) S (nI (tx (i + 1) - 48))) q2 (by decide)
              have q4 := chP_w (c := 60) (g := upd (γ.1 60) S (nI (tx (i + 2) - 48))) q3 (by decide)
              have q5 := chP_w (c := 61) (g := upd (γ.1 61) S x) q4 (by decide)
              have q6 := chP_50 (j := 19) (x := nI (S + 1)) q5 (by decide)
              simp only [wI_get, upd_get, Nat.reduceEqDiff, reduceIte, if_true, if_false] at q6
              exact q6
            refine hQ1 (i + 4) p2 ω (by omega) (by omega) (by rw [hp2]) I2 co (by rw [o50, upd_ne _ _ (by decide), upd_eq]) ?_ (by rw [r8, prn_at hl4, hs4])
            rw [hp2]
            refine ⟨?_, ?_, ?_, ?_, ?_, fun s hs => ?_⟩
            · rw [o50, γ50]; simp only [wI_get, upd_get, Nat.reduceEqDiff, reduceIte, if_true, if_false]; exact b1
            · rw [o50, γ50]; simp only [wI_get, upd_get, Nat.reduceEqDiff, reduceIte, if_true, if_false]; exact b2
            · rw [o50, γ50]; simp only [wI_get, upd_get, Nat.reduceEqDiff, reduceIte, if_true, if_false]; exact b3
            · rw [o50]; simp only [wI_get, upd_get, Nat.reduceEqDiff, reduceIte, if_true, if_false]
            · rw [o57]; exact b5
            · rw [o58, o59, o60, o61]
              by_cases e : s = S
              · subst e; simp only [upd_eq, uN_eq]; exact ⟨trivial, trivial, trivial, trivial⟩
              · rw [upd_ne _ _ e, upd_ne _ _ e, upd_ne _ _ e, upd_ne _ _ e, upd_ne _ _ e, uN_ne _ _ e, uN_ne _ _ e, uN_ne _ _ e]; exact b6 s (by omega)
          by_cases h45 : tx (i + 3) = 45
          · have e45 : (nI (tx (i + 3)) = 45) = True := eq_true (by rw [h45]; rfl)
            simp only [e108_49, e108_50, e108_51, e108_53, e108_56, e108_57, e108_60, e108_61, e108_64, e108_69, e108_70, e108_73, e108_74, e108_77, e108_78, e108_80, e108_83, e108_85, e108_100, e108_102, e108_103, e108_106, e108_107, e108_110, e108_111, e108_113, true_or, or_true, true_and, and_true, Option.toList, List.cons_append, List.nil_append, if_true, if_false, reduceIte, sk50, sr50_1, sk51, sn51, m9_ne (n := tx (i + 2) - 48) (by omega), p3, xC.2.1, hne, in_eq (j := i + 3) (n := 64) (by omega) (by decide), nI_clamp (n := i + 3) (by omega), xt.2, e45]
            exact fin (-9) (2, (P, S + 1, uN w S (tx i - 48), uN z S (tx (i + 1) - 48), uN v S (tx (i + 2) - 48), upd a S (-9)), f, th, lw, an) rfl (by simp [pst, h45])
          · have e45 : (nI (tx (i + 3)) = 45) = False := eq_false (fun e => h45 (nI_inj (b := 45) (by omega) (by decide) e))
            by_cases hd : 48 ≤ tx (i + 3) ∧ tx (i + 3) - 48 < S
            · have es : nI (tx (i + 3)) - 48 = nI (tx (i + 3) - 48) := pk_sub (a := tx (i + 3)) (b := 48) (by omega)
              have hin : inR (nI (tx (i + 3) - 48)) S = true := by rw [inR_nI (by omega)]; exact decide_eq_true hd.2
              have g61 : ∀ s, s < S → γ.1 61 s = a s := fun s hs => by rw [← hγ, ← hβ, ← hα]; simp only [wI_get, upd_get, Nat.reduceEqDiff, reduceIte, if_true, if_false]; exact (b6 s hs).2.2.2
              have c109' := fun Q => c109 (d := d + 1) (S := S) (k := tx (i + 3) - 48) (a := a) (τ := γ) (Q := Q) p19 (by omega) g61 (c := an.testBit (tx (i + 3) - 48)) (hI.2.2.2.2.2.2.2.2.2.2.2.2.2.2 _ (by omega))
              simp only [e108_49, e108_50, e108_51, e108_53, e108_56, e108_57, e108_60, e108_61, e108_64, e108_69, e108_70, e108_73, e108_74, e108_77, e108_78, e108_80, e108_88, e108_89, e108_92, e108_93, e108_96, e108_97, e108_99, e108_100, e108_102, e108_103, e108_106, e108_107, e108_110, e108_111, e108_113, e108_116, e108_118, e108_119, e108_120, e108_121, e108_124, e108_125, e108_126, e108_127, e108_130, e108_133, e108_134, e108_136, e108_139, e108_142, e108_143, true_or, or_true, true_and, and_true, Option.toList, List.cons_append, List.nil_append, if_true, if_false, reduceIte, sk50, sr50_1, sk51, sn51, m9_ne (n := tx (i + 2) - 48) (by omega), p3, p19, xC.2.1, hne, in_eq (j := i + 3) (n := 64) (by omega) (by decide), nI_clamp (n := i + 3) (by omega), xt.2, e45, es, c101, inL (x := nI (tx (i + 3) - 48)) (n := S) (by omega), hin, bI_0, Bool.true_eq_false, c109']
              cases hbt2 : an.testBit (tx (i + 3) - 48)
              · simp only [if_true]
                exact fin (nI (tx (i + 3) - 48)) (2, (P, S + 1, uN w S (tx i - 48), uN z S (tx (i + 1) - 48), uN v S (tx (i + 2) - 48), upd a S (nI (tx (i + 3) - 48))), f, th, lw, an ||| 2 ^ (tx (i + 3) - 48)) rfl (by simp [pst, h45, hbt2]; omega)
              · simp only [Bool.true_eq_false, if_false]
                exact end5 (i + 3) _ γ (by omega) cC p3 (fun e => by cases e) (fun _ => by simp [pst, h45, hbt2]) r8
            · have hin : inR (nI (tx (i + 3)) - 48) S = false := by
                unfold inR
                have h1 : (nI (tx (i + 3)) - 48).toInt = (tx (i + 3) : Int) - 48 := pk_sub_toInt (a := tx (i + 3)) (b := 48) (by omega) (by decide)
                rw [h1]
                exact decide_eq_false (by omega)
              simp only [e108_49, e108_50, e108_51, e108_53, e108_56, e108_57, e108_60, e108_61, e108_64, e108_69, e108_70, e108_73, e108_74, e108_77, e108_78, e108_80, e108_88, e108_89, e108_92, e108_93, e108_96, e108_97, e108_99, e108_100, e108_102, e108_103, e108_106, e108_107, e108_110, e108_111, e108_113, e108_116, e108_118, e108_119, e108_120, e108_121, e108_124, e108_125, e108_126, e108_127, e108_130, e108_142, e108_143, true_or, or_true, true_and, and_true, Option.toList, List.cons_append, List.nil_append, if_true, if_false, reduceIte, sk50, sr50_1, sk51, sn51, m9_ne (n := tx (i + 2) - 48) (by omega), p3, p19, xC.2.1, hne, in_eq (j := i + 3) (n := 64) (by omega) (by decide), nI_clamp (n := i + 3) (by omega), xt.2, e45, c101, inL (x := nI (tx (i + 3)) - 48) (n := S) (by omega), hin, bI_0]
              exact end5 (i + 3) _ γ (by omega) cC p3 (fun e => by cases e) (fun _ => by simp [pst, h45]; omega) r8
        · have he : (nI (i + 3) = nI tn) = True := eq_true (by rw [show i + 3 = tn by omega])
          simp only [e108_49, e108_50, e108_51, e108_53, e108_56, e108_57, e108_60, e108_61, e108_64, e108_67, e108_68, true_or, or_true, true_and, and_true, Option.toList, List.cons_append, List.nil_append, if_true, if_false, reduceIte, sk50, m9_ne (n := tx (i + 2) - 48) (by omega), p3, xC.2.1, he]
          exact end5 (i + 3) _ γ (by omega) cC p3 (fun e => by cases e) (fun z => by omega) r8
      · simp only [e108_49, e108_50, e108_51, e108_53, e108_67, e108_68, true_or, or_true, true_and, and_true, Option.toList, List.cons_append, List.nil_append, if_true, if_false, reduceIte]
        exact end5 (i + 2) _ β (by omega) cB (by rw [β50, upd_eq]) (fun e => by cases e) (fun _ => by simp [pst]; omega) r7
    · simp only [e108_30, e108_31, e108_32, e108_34, e108_37, e108_39, e108_49, e108_50, e108_51, e108_53, e108_67, e108_68, true_or, or_true, true_and, and_true, Option.toList, List.cons_append, List.nil_append, if_true, if_false, reduceIte]
      exact end5 (i + 1) _ α (by omega) cA (by rw [α50, upd_eq]) (fun e => by cases e) (fun _ => by simp [pst]; omega) r6
  · simp only [e108_11, e108_12, e108_13, e108_15, e108_18, e108_20, e108_30, e108_31, e108_32, e108_34, e108_37, e108_39, e108_49, e108_50, e108_51, e108_53, e108_67, e108_68, true_or, or_true, true_and, and_true, Option.toList, List.cons_append, List.nil_append, if_true, if_false, reduceIte]
    exact end5 i _ σ hi (chP_rf σ) v3 (fun e => by cases e) (fun _ => by simp [pst]; omega) rfl
