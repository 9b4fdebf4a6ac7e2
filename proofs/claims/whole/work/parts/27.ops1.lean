/-! THE QUESTIONS, ONE BY ONE -/
theorem stO16 : stO 16 := ⟨rfl, rfl, rfl⟩
theorem tdO11 : tdO 11 := ⟨rfl, ⟨rfl, rfl⟩, ⟨rfl, rfl⟩, ⟨rfl, rfl⟩, ⟨rfl, rfl⟩⟩
set_option maxHeartbeats 4000000 in
theorem op_may {B : Nat} {σ : ab_St} {x : Int32} (hB : B < 90000) (hI : Inv B σ) : op2 B σ 45 [some (.ref 0), some (.int x)] 121 [some (.ref 50), some (.int x)] := by
  obtain ⟨tn, tx, t, f, th, sd, la, lw, h, -⟩ := id hI
  have hst := bas_stV hB h
  obtain ⟨h1, h2, h3, h4, h5, h6, h7⟩ := id h
  have hsd : sd < 256 := by have := two_le8 _ h1.2.1; have := h5.2.1; omega
  by_cases hx : inR x (tS t) = true
  · obtain ⟨s, hs, rfl⟩ := inR_of hx (by have := h1.2.1; omega)
    refine op2_q (.int (bI (alw t f th sd la s))) hI ?_
    simp only [e45_0, e45_1, e45_4, e45_5, e45_8, e45_11, e45_12, e45_13, e45_14, e45_17, e45_18, e45_21, e45_22, e45_25, e45_28, e45_29, e45_32, e45_33, true_or, or_true, true_and, and_true, Option.toList, List.cons_append, List.nil_append, if_true, if_false, reduceIte, sk0, sr0_2, sr0_3, sk11, sk16, c31 sk11 h3.2.1 h1.2.1, hx, bI_0, Bool.true_eq_false, c46 (d := 5) stO16 hst h6.2.2.2.1 h6.2.2.2.2.2.1 hsd tdO11 h1 h3 hs]
    have key : Ev 8 121 0 [some (.ref 50), some (.int (nI s))] [] σ (fun r' σ2 => r' = some (.int (bI (alw t f th sd la s))) ∧ sam σ σ2) := by
      have s0 : sam σ (ab_wI σ 50 (upd (σ.1 50) 0 0)) := sam_50 (by decide)
      have g := bas_sam (Nat.le_refl B) s0 h
      simp only [e121_0, e121_1, e121_2, true_or, or_true, true_and, and_true, Option.toList, List.cons_append, List.nil_append, if_true, if_false, reduceIte, sk50]
      generalize ab_wI σ 50 (upd (σ.1 50) 0 0) = τ at s0 g
      have gm := bas_mlV hB g
      have s1 := sam_bgn τ (tP t)
      have g2 := bas_sam (Nat.le_refl B) s1 g
      obtain ⟨g1, -, -, g4, g5, g6, -⟩ := id g
      simp only [e121_0, e121_1, e121_2, e121_5, e121_6, e121_7, e121_10, e121_13, e121_14, e121_15, e121_16, e121_19, e121_20, e121_21, e121_24, e121_27, e121_28, e121_31, e121_32, true_or, or_true, true_and, and_true, Option.toList, List.cons_append, List.nil_append, if_true, if_false, reduceIte, sk50, c119 g4.2.1 g1.2.1, hx, bI_0, Bool.not_true, Bool.true_eq_false, c112 g4.1 g1.1, c122 (d := 5) g1 g2.2.2.2.1 gm ((bgn_29 τ _).trans g6.2.2.2.2.1) ((bgn_30 τ _).trans g6.2.2.2.2.2.2.1) hsd hs]
      cases alw t f th sd la s <;> simp [bI] <;> exact sam_tr s0 s1
    cases hal : alw t f th sd la s
    · simp only [true_or, or_true, true_and, and_true, Option.toList, List.cons_append, List.nil_append, if_true, if_false, reduceIte, bI, Bool.false_eq_true]
      rw [hal] at key
      exact ⟨sam_rf σ, key⟩
    · simp only [true_or, or_true, true_and, and_true, Option.toList, List.cons_append, List.nil_append, if_true, if_false, reduceIte, bI, Bool.true_eq_false]
      rw [hal] at key
      exact ⟨sam_rf σ, key⟩
  · have hx : inR x (tS t) = false := by simpa using hx
    refine op2_q (.int (-1)) hI ?_
    simp only [e45_0, e45_1, e45_4, e45_5, e45_8, e45_11, e45_12, e45_13, e45_14, e45_17, e45_18, e45_21, e45_22, e45_25, e45_28, e45_29, e45_32, e45_33, true_or, or_true, true_and, and_true, Option.toList, List.cons_append, List.nil_append, if_true, if_false, reduceIte, sk0, sr0_2, sk11, c31 sk11 h3.2.1 h1.2.1, hx, bI_0]
    refine ⟨sam_rf σ, ?_⟩
    have s0 : sam σ (ab_wI σ 50 (upd (σ.1 50) 0 0)) := sam_50 (by decide)
    have g := bas_sam (Nat.le_refl B) s0 h
    simp only [e121_0, e121_1, e121_2, true_or, or_true, true_and, and_true, Option.toList, List.cons_append, List.nil_append, if_true, if_false, reduceIte, sk50]
    generalize ab_wI σ 50 (upd (σ.1 50) 0 0) = τ at s0 g
    obtain ⟨g1, -, -, g4, g5, g6, -⟩ := id g
    simp only [e121_0, e121_1, e121_2, e121_5, e121_6, e121_7, e121_10, e121_13, e121_14, e121_15, e121_16, e121_19, e121_20, e121_21, e121_24, e121_27, e121_28, e121_31, e121_32, true_or, or_true, true_and, and_true, Option.toList, List.cons_append, List.nil_append, if_true, if_false, reduceIte, sk50, c119 g4.2.1 g1.2.1, hx, bI_0, Bool.not_false, Bool.true_eq_false]
    exact s0
