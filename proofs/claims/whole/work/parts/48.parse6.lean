/-! PARTS, THE PARLOUR -/
set_option maxHeartbeats 8000000 in
/-- readPart -/
theorem c106 {d i tn : Nat} {p : pS} {tx : Nat → Nat} {σ : ab_St} {Q : Option Value → ab_St → Prop} (hx : mTx σ tn tx) (hl : i < tn) (v3 : σ.1 50 3 = nI i) (hd : p.1 = 2) (hI : pI p) (hR : RM σ p) (hQ : prt Q σ tx tn i p) : Ev (d + 3) 106 0 [some (.ref 50), none] [] σ Q := by
  obtain ⟨due, ⟨P, S, w, z, v, a⟩, f, th, lw, an⟩ := p
  have hd2 : due = 2 := hd
  subst hd2
  obtain ⟨hQ0, hQ1⟩ := hQ
  have hR0 := hR
  obtain ⟨b1, b2, b3, b4, b5, b6⟩ := hR
  have hx64 := hx.1
  have xt := hx.2.2 i hl
  have hb : tx i < 256 := xt.1
  have hP6 : P ≤ 6 := hI.2.1
  have hS8 : S ≤ 8 := hI.2.2.1
  have hth : th < 2 ^ P := by have := hI.2.2.2.2.2.1; rw [if_neg (by omega)] at this; exact this
  have cA : chP σ (ab_wI σ 50 (upd (σ.1 50) 3 (nI (i + 1)))) := chP_50 (chP_rf σ) (by decide)
  have A3 : (ab_wI σ 50 (upd (σ.1 50) 3 (nI (i + 1)))).1 50 3 = nI (i + 1) := by rw [wI_eq, upd_eq]
  have RA : RM (ab_wI σ 50 (upd (σ.1 50) 3 (nI (i + 1)))) (2, (P, S, w, z, v, a), f, th, lw, an) := RM_ch hR0 (fun c hc => by rw [wI_ne]; intro e; rw [e] at hc; revert hc; decide) (fun k hk => by rw [wI_eq, upd_ne]; intro e; rw [e] at hk; revert hk; decide)
  have n80 : (nI (tx i) = 80) = (tx i = 80) := propext (nI_eq (a := tx i) (b := 80) (by omega) (by decide))
  have n65 : (nI (tx i) = 65) = (tx i = 65) := propext (nI_eq (a := tx i) (b := 65) (by omega) (by decide))
  have n83 : (nI (tx i) = 83) = (tx i = 83) := propext (nI_eq (a := tx i) (b := 83) (by omega) (by decide))
  have none_end : pst (2, (P, S, w, z, v, a), f, th, lw, an) (tx i) = none → Q (some (.int 0)) σ := fun hn => hQ0 i σ (by omega) (chP_rf σ) v3 (by rw [prn_at hl, hn])
  have go : ∀ (p3 : pS), pst (2, (P, S, w, z, v, a), f, th, lw, an) (tx i) = some p3 → prt Q (ab_wI σ 50 (upd (σ.1 50) 3 (nI (i + 1)))) tx tn (i + 1) p3 := by
    intro p3 hs
    refine ⟨fun j τ hj hc h3 he => hQ0 j τ hj (chP_tr cA hc) h3 (by rw [prn_at hl, hs]; exact he), fun j p2 τ hij hj hp2 hI2 hc h3 hR2 he => hQ1 j p2 τ (by omega) hj hp2 hI2 (chP_tr cA hc) h3 hR2 (by rw [prn_at hl, hs]; exact he)⟩
  have wr : ∀ {R : Option Value → ab_St → Prop} {p3 : pS}, (∀ x τ, (x = 0 ∨ x = 1) → Q (some (.int x)) τ → R (some (.int x)) τ) → prt Q (ab_wI σ 50 (upd (σ.1 50) 3 (nI (i + 1)))) tx tn (i + 1) p3 → prt R (ab_wI σ 50 (upd (σ.1 50) 3 (nI (i + 1)))) tx tn (i + 1) p3 := by
    intro R p3 hr hq
    exact ⟨fun j τ hj hc h3 he => hr _ _ (Or.inl rfl) (hq.1 j τ hj hc h3 he), fun j p2 τ hij hj hp2 hI2 hc h3 hR2 he => hr _ _ (Or.inr rfl) (hq.2 j p2 τ hij hj hp2 hI2 hc h3 hR2 he)⟩
  have i64 := in_eq (j := i) (n := 64) (by omega) (by decide)
  by_cases hPA : tx i = 80 ∨ tx i = 65
  · have h83 : (tx i = 83) = False := eq_false (by omega)
    by_cases hP : P < 6
    · have g6 : ((6 : Int32) ≤ nI P) = False := eq_false (nI_ge (a := P) (b := 6) hP (by omega))
      by_cases h80 : tx i = 80
      · have hs : pst (2, (P, S, w, z, v, a), f, th, lw, an) (tx i) = some (3, (P, S, w, z, v, a), f, th ||| 2 ^ P, lw, an) := by simp [pst, h80, hP]
        simp only [e106_0, e106_1, e106_4, e106_5, e106_8, e106_9, e106_10, e106_11, e106_13, e106_16, e106_17, e106_19, e106_22, e106_23, e106_26, e106_28, e106_31, e106_32, e106_33, e106_36, e106_37, e106_38, e106_41, e106_42, e106_43, e106_45, e106_48, e106_49, e106_52, e106_53, true_or, or_true, true_and, and_true, Option.toList, List.cons_append, List.nil_append, if_true, if_false, reduceIte, sk50, sr50_1, sk51, sn51, v3, i64, nI_clamp (n := i) (by omega), xt.2, n80, eq_true h80, b2, g6, nI_1]
        refine c107 (x := 1) (th := th) (th2 := th ||| 2 ^ P) (mTx_ch hx cA) (by omega) A3 (pI_step hI hs) RA hth (Or.inl ⟨rfl, rfl⟩) (wr (fun x τ hx01 hq => ?_) (go _ hs))
        simp only [e106_56, true_or, or_true, true_and, and_true, Option.toList, List.cons_append, List.nil_append, if_true, if_false, reduceIte]
        exact ⟨hx01, hq⟩
      · have h65 : tx i = 65 := by omega
        have hs : pst (2, (P, S, w, z, v, a), f, th, lw, an) (tx i) = some (3, (P, S, w, z, v, a), f, th, lw, an) := by simp [pst, h65, hP]
        simp only [e106_0, e106_1, e106_4, e106_5, e106_8, e106_9, e106_10, e106_11, e106_13, e106_16, e106_17, e106_19, e106_22, e106_23, e106_26, e106_28, e106_31, e106_32, e106_33, e106_36, e106_37, e106_38, e106_41, e106_42, e106_43, e106_45, e106_48, e106_49, e106_52, e106_53, true_or, or_true, true_and, and_true, Option.toList, List.cons_append, List.nil_append, if_true, if_false, reduceIte, sk50, sr50_1, sk51, sn51, v3, i64, nI_clamp (n := i) (by omega), xt.2, n80, eq_false h80, n65, eq_true h65, b2, g6, nI_1]
        refine c107 (x := 0) (th := th) (th2 := th) (mTx_ch hx cA) (by omega) A3 (pI_step hI hs) RA hth (Or.inr ⟨rfl, rfl⟩) (wr (fun x τ hx01 hq => ?_) (go _ hs))
        simp only [e106_56, true_or, or_true, true_and, and_true, Option.toList, List.cons_append, List.nil_append, if_true, if_false, reduceIte]
        exact ⟨hx01, hq⟩
    · have g6 : ((6 : Int32) ≤ nI P) = True := eq_true (nI_le (a := 6) (b := P) (by omega) (by omega))
      have hn : pst (2, (P, S, w, z, v, a), f, th, lw, an) (tx i) = none := by simp [pst, h83, hP]
      by_cases h80 : tx i = 80
      · simp only [e106_0, e106_1, e106_4, e106_5, e106_8, e106_9, e106_10, e106_11, e106_13, e106_16, e106_17, e106_19, e106_22, e106_23, e106_26, e106_28, e106_31, e106_32, e106_33, e106_36, e106_37, e106_38, e106_41, e106_42, e106_43, e106_45, e106_48, e106_49, e106_52, e106_53, e106_56, e106_57, e106_58, e106_60, e106_63, e106_64, e106_67, e106_69, e106_72, e106_73, e106_76, e106_79, e106_80, e106_81, e106_84, e106_85, e106_86, e106_89, e106_90, e106_93, e106_94, e106_95, true_or, or_true, true_and, and_true, Option.toList, List.cons_append, List.nil_append, if_true, if_false, reduceIte, sk50, sr50_1, sk51, sn51, v3, i64, nI_clamp (n := i) (by omega), xt.2, n80, eq_true h80, n83, h83, b2, g6]
        exact none_end hn
      · have h65 : tx i = 65 := by omega
        simp only [e106_0, e106_1, e106_4, e106_5, e106_8, e106_9, e106_10, e106_11, e106_13, e106_16, e106_17, e106_19, e106_22, e106_23, e106_26, e106_28, e106_31, e106_32, e106_33, e106_36, e106_37, e106_38, e106_41, e106_42, e106_43, e106_45, e106_48, e106_49, e106_52, e106_53, e106_56, e106_57, e106_58, e106_60, e106_63, e106_64, e106_67, e106_69, e106_72, e106_73, e106_76, e106_79, e106_80, e106_81, e106_84, e106_85, e106_86, e106_89, e106_90, e106_93, e106_94, e106_95, true_or, or_true, true_and, and_true, Option.toList, List.cons_append, List.nil_append, if_true, if_false, reduceIte, sk50, sr50_1, sk51, sn51, v3, i64, nI_clamp (n := i) (by omega), xt.2, n80, eq_false h80, n65, eq_true h65, n83, h83, b2, g6]
        exact none_end hn
  · have h80 : (tx i = 80) = False := eq_false (by omega)
    have h65 : (tx i = 65) = False := eq_false (by omega)
    by_cases h83 : tx i = 83
    · by_cases hS : S < 8
      · have g8 : ((8 : Int32) ≤ nI S) = False := eq_false (nI_ge (a := S) (b := 8) hS (by omega))
        by_cases hP : 0 < P
        · have g0 : (nI P ≤ 0) = False := eq_false (nI_ge (a := 0) (b := P) hP (by omega))
          have hs : pst (2, (P, S, w, z, v, a), f, th, lw, an) (tx i) = some (5, (P, S, w, z, v, a), f, th, lw, an) := by simp [pst, h83, hP, hS]
          simp only [e106_0, e106_1, e106_4, e106_5, e106_8, e106_9, e106_10, e106_11, e106_13, e106_16, e106_17, e106_19, e106_57, e106_58, e106_60, e106_63, e106_64, e106_67, e106_69, e106_72, e106_73, e106_76, e106_79, e106_80, e106_81, e106_84, e106_85, e106_86, e106_89, e106_90, true_or, or_true, true_and, and_true, Option.toList, List.cons_append, List.nil_append, if_true, if_false, reduceIte, sk50, sr50_1, sk51, sn51, v3, i64, nI_clamp (n := i) (by omega), xt.2, n80, h80, n65, h65, n83, eq_true h83, b2, b4, g8, g0, nI_1]
          refine c108 (mTx_ch hx cA) (by omega) A3 (pI_step hI hs) RA (wr (fun x τ hx01 hq => ?_) (go _ hs))
          simp only [e106_93, true_or, or_true, true_and, and_true, Option.toList, List.cons_append, List.nil_append, if_true, if_false, reduceIte]
          exact ⟨hx01, hq⟩
        · have g0 : (nI P ≤ 0) = True := eq_true (nI_le (a := P) (b := 0) (by omega) (by omega))
          have hn : pst (2, (P, S, w, z, v, a), f, th, lw, an) (tx i) = none := by simp [pst, h83, hP]
          simp only [e106_0, e106_1, e106_4, e106_5, e106_8, e106_9, e106_10, e106_11, e106_13, e106_16, e106_17, e106_19, e106_22, e106_23, e106_26, e106_28, e106_31, e106_32, e106_33, e106_36, e106_37, e106_38, e106_41, e106_42, e106_43, e106_45, e106_48, e106_49, e106_52, e106_53, e106_56, e106_57, e106_58, e106_60, e106_63, e106_64, e106_67, e106_69, e106_72, e106_73, e106_76, e106_79, e106_80, e106_81, e106_84, e106_85, e106_86, e106_89, e106_90, e106_93, e106_94, e106_95, true_or, or_true, true_and, and_true, Option.toList, List.cons_append, List.nil_append, if_true, if_false, reduceIte, sk50, sr50_1, sk51, sn51, v3, i64, nI_clamp (n := i) (by omega), xt.2, n80, h80, n65, h65, n83, eq_true h83, b2, b4, g8, g0]
          exact none_end hn
      · have g8 : ((8 : Int32) ≤ nI S) = True := eq_true (nI_le (a := 8) (b := S) (by omega) (by omega))
        have hn : pst (2, (P, S, w, z, v, a), f, th, lw, an) (tx i) = none := by simp [pst, h83, hS]
        simp only [e106_0, e106_1, e106_4, e106_5, e106_8, e106_9, e106_10, e106_11, e106_13, e106_16, e106_17, e106_19, e106_22, e106_23, e106_26, e106_28, e106_31, e106_32, e106_33, e106_36, e106_37, e106_38, e106_41, e106_42, e106_43, e106_45, e106_48, e106_49, e106_52, e106_53, e106_56, e106_57, e106_58, e106_60, e106_63, e106_64, e106_67, e106_69, e106_72, e106_73, e106_76, e106_79, e106_80, e106_81, e106_84, e106_85, e106_86, e106_89, e106_90, e106_93, e106_94, e106_95, true_or, or_true, true_and, and_true, Option.toList, List.cons_append, List.nil_append, if_true, if_false, reduceIte, sk50, sr50_1, sk51, sn51, v3, i64, nI_clamp (n := i) (by omega), xt.2, n80, h80, n65, h65, n83, eq_true h83, b2, b4, g8]
        exact none_end hn
    · have hn : pst (2, (P, S, w, z, v, a), f, th, lw, an) (tx i) = none := by simp [pst, h83, h80, h65]
      simp only [e106_0, e106_1, e106_4, e106_5, e106_8, e106_9, e106_10, e106_11, e106_13, e106_16, e106_17, e106_19, e106_22, e106_23, e106_26, e106_28, e106_31, e106_32, e106_33, e106_36, e106_37, e106_38, e106_41, e106_42, e106_43, e106_45, e106_48, e106_49, e106_52, e106_53, e106_56, e106_57, e106_58, e106_60, e106_63, e106_64, e106_67, e106_69, e106_72, e106_73, e106_76, e106_79, e106_80, e106_81, e106_84, e106_85, e106_86, e106_89, e106_90, e106_93, e106_94, e106_95, true_or, or_true, true_and, and_true, Option.toList, List.cons_append, List.nil_append, if_true, if_false, reduceIte, sk50, sr50_1, sk51, sn51, v3, i64, nI_clamp (n := i) (by omega), xt.2, n80, h80, n65, h65, n83, eq_false h83]
      exact none_end hn
set_option maxHeartbeats 8000000 in
/-- readParlour -/
theorem c104 {d tn : Nat} {tx : Nat → Nat} {σ : ab_St} {Q : Option Value → ab_St → Prop} (hx : mTx σ tn tx) (hQ : ∀ τ, chP σ τ → ((prn tx tn tn 0 p00).1 = -9 → RM τ (prn tx tn tn 0 p00).2) → Q (some (.int (prn tx tn tn 0 p00).1)) τ) : Ev (d + 4) 104 0 [some (.ref 50)] [] σ Q := by
  have hx64 := hx.1
  have key : ∀ (k i : Nat) (p : pS) (τ : ab_St), i + k = tn → p.1 = 2 → pI p → RM τ p → chP σ τ → τ.1 50 3 = nI i → (∀ υ, chP σ υ → ((prn tx tn (tn - i) i p).1 = -9 → RM υ (prn tx tn (tn - i) i p).2) → Q (some (.int (prn tx tn (tn - i) i p).1)) υ) → Ev (d + 4) 104 66 [some (.ref 50)] [] τ Q := by
    intro k
    induction k using Nat.strongRecOn with
    | ind k ih =>
      intro i p τ hk h2 hI hR hc h3 hq
      have hxτ := mTx_ch hx hc
      by_cases hl : i < tn
      · have hge : (nI tn ≤ nI i) = False := eq_false (nI_ge hl (by omega))
        rw [e104_66]
        simp only [e104_67, e104_70, e104_71, e104_74, e104_77, e104_78, true_or, or_true, true_and, and_true, Option.toList, List.cons_append, List.nil_append, if_true, if_false, reduceIte, sk50, h3, hxτ.2.1, hge]
        refine c106 hxτ hl h3 h2 hI hR ⟨fun j υ hj hcυ h3υ he => ?_, fun j p2 υ hij hj hp2 hI2 hcυ h3υ hR2 he => ?_⟩
        · simp only [e104_81, e104_84, e104_85, e104_88, true_or, or_true, true_and, and_true, Option.toList, List.cons_append, List.nil_append, if_true, if_false, reduceIte, sk50, h3υ]
          have := hq υ (chP_tr hc hcυ)
          rw [he] at this
          exact this (fun z => absurd z (nI_m9 (by omega)))
        · simp only [e104_81, true_or, or_true, true_and, and_true, Option.toList, List.cons_append, List.nil_append, if_true, if_false, reduceIte, show ((1 : Int32) = 0) = False from eq_false (by decide)]
          refine ih (tn - j) (by omega) j p2 υ (by omega) hp2 hI2 hR2 (chP_tr hc hcυ) h3υ (fun ω hω hr => ?_)
          have := hq ω hω
          rw [he] at this
          exact this hr
      · have hge : (nI tn ≤ nI i) = True := eq_true (nI_le (by omega) (by omega))
        rw [e104_66]
        simp only [e104_67, e104_70, e104_71, e104_74, e104_89, e104_91, true_or, or_true, true_and, and_true, Option.toList, List.cons_append, List.nil_append, if_true, if_false, reduceIte, sk50, h3, hxτ.2.1, hge]
        have := hq τ hc
        rw [prn_tn (by omega), if_pos h2] at this
        exact this (fun _ => hR)
  have hQ' : ∀ υ, chP σ υ → ((prn tx tn (tn - 0) 0 p00).1 = -9 → RM υ (prn tx tn (tn - 0) 0 p00).2) → Q (some (.int (prn tx tn (tn - 0) 0 p00).1)) υ := hQ
  simp only [e104_0, e104_1, e104_2, e104_5, e104_6, e104_7, e104_10, e104_11, e104_12, e104_15, e104_16, e104_17, e104_20, e104_21, e104_24, true_or, or_true, true_and, and_true, Option.toList, List.cons_append, List.nil_append, if_true, if_false, reduceIte, wI_get, upd_get, Nat.reduceEqDiff, reduceIte, if_true, if_false, sk50, hx.2.1]
  have c0 : chP σ (ab_wI (ab_wI (ab_wI (ab_wI σ 50 (upd (σ.1 50) 3 0)) 50 (upd (upd (σ.1 50) 3 0) 16 0)) 50 (upd (upd (upd (σ.1 50) 3 0) 16 0) 18 0)) 50 (upd (upd (upd (upd (σ.1 50) 3 0) 16 0) 18 0) 19 0)) := by
    have a1 : chP σ (ab_wI σ 50 (upd (σ.1 50) 3 0)) := chP_50 (chP_rf σ) (by decide)
    have a2 := chP_50 (j := 16) (x := 0) a1 (by decide)
    have a3 := chP_50 (j := 18) (x := 0) a2 (by decide)
    have a4 := chP_50 (j := 19) (x := 0) a3 (by decide)
    simp only [wI_get, upd_get, Nat.reduceEqDiff, reduceIte, if_true, if_false] at a4
    exact a4
  generalize hα : ab_wI (ab_wI (ab_wI (ab_wI σ 50 (upd (σ.1 50) 3 0)) 50 (upd (upd (σ.1 50) 3 0) 16 0)) 50 (upd (upd (upd (σ.1 50) 3 0) 16 0) 18 0)) 50 (upd (upd (upd (upd (σ.1 50) 3 0) 16 0) 18 0) 19 0) = α at c0
  have α50 : α.1 50 = upd (upd (upd (upd (σ.1 50) 3 0) 16 0) 18 0) 19 0 := by rw [← hα, wI_eq]
  by_cases ht : tn = 0
  · subst ht
    have e0 : (nI 0 = (0 : Int32)) = True := eq_true rfl
    simp only [e104_38, e104_39, true_or, or_true, true_and, and_true, Option.toList, List.cons_append, List.nil_append, if_true, if_false, reduceIte, e0]
    exact hQ' α c0 (fun z => absurd (show (0 : Int32) = -9 from z) (by decide))
  · have e0 : (nI tn = (0 : Int32)) = False := eq_false (fun e => by have := nI_inj (a := tn) (b := 0) (by omega) (by decide) e; omega)
    have x0 := (mTx_ch hx c0).2.2 0 (by omega)
    have hb0 : tx 0 < 256 := x0.1
    have n81 : (nI (tx 0) = 81) = (tx 0 = 81) := propext (nI_eq (a := tx 0) (b := 81) (by omega) (by decide))
    by_cases h81 : tx 0 = 81
    · have hs : pst p00 (tx 0) = some (1, (0, 0, fun _ => 0, fun _ => 0, fun _ => 0, fun _ => 0), fun _ => 0, 0, 0, 0) := by simp [pst, p00, h81]
      have I1 := pI_step pI_00 hs
      have r1 : prn tx tn (tn - 0) 0 p00 = prn tx tn (tn - 1) 1 (1, (0, 0, fun _ => 0, fun _ => 0, fun _ => 0, fun _ => 0), fun _ => 0, 0, 0, 0) := by rw [prn_at (by omega), hs]
      rw [r1] at hQ'
      have c1 : chP σ (ab_wI α 50 (upd (α.1 50) 3 1)) := chP_50 c0 (by decide)
      simp only [e104_27, e104_28, e104_31, e104_32, e104_33, e104_35, e104_40, e104_41, e104_42, e104_45, e104_46, e104_47, e104_48, e104_49, true_or, or_true, true_and, and_true, Option.toList, List.cons_append, List.nil_append, if_true, if_false, reduceIte, e0, sk50, sr50_1, sk51, sn51, in_eq (j := 0) (n := 64) (by omega) (by decide), show ((0 : Int32).toNatClampNeg) = 0 from rfl, x0.2, n81, eq_true h81, show ab_in 0 64 = True from in_eq (j := 0) (n := 64) (by decide) (by decide)]
      generalize hβ : ab_wI α 50 (upd (α.1 50) 3 1) = β at c1
      have β50 : β.1 50 = upd (upd (upd (upd (upd (σ.1 50) 3 0) 16 0) 18 0) 19 0) 3 1 := by rw [← hβ, wI_eq, α50]
      refine c105 (lo := 0) (hi := 2) (i := 1) (mTx_ch hx c1) (by omega) (by rw [β50, upd_eq]; rfl) (by decide) (by decide) (fun hl1 g1 g2 => ?_) (fun hn => ?_)
      · have hs2 : pst (1, (0, 0, fun _ => 0, fun _ => 0, fun _ => 0, fun _ => 0), fun _ => 0, 0, 0, 0) (tx 1) = some (2, (0, 0, fun _ => 0, fun _ => 0, fun _ => 0, fun _ => 0), fun _ => 0, 0, tx 1 - 48, 0) := by simp [pst]; omega
        have I2 := pI_step I1 hs2
        rw [prn_at hl1, hs2] at hQ'
        simp only [e104_52, e104_55, e104_56, e104_59, e104_61, true_or, or_true, true_and, and_true, Option.toList, List.cons_append, List.nil_append, if_true, if_false, reduceIte, wI_get, upd_get, Nat.reduceEqDiff, reduceIte, if_true, if_false, sk50, m9_ne (n := tx 1 - 48) (by omega)]
        refine key (tn - 2) 2 _ _ (by omega) rfl I2 ⟨?_, ?_, ?_, ?_, fun q hq => by omega, fun s hs => by omega⟩ ?_ ?_ hQ'
        · simp only [wI_get, upd_get, Nat.reduceEqDiff, reduceIte, if_true, if_false]
        · simp only [wI_get, upd_get, Nat.reduceEqDiff, reduceIte, if_true, if_false, β50]; rfl
        · simp only [wI_get, upd_get, Nat.reduceEqDiff, reduceIte, if_true, if_false, β50]; rfl
        · simp only [wI_get, upd_get, Nat.reduceEqDiff, reduceIte, if_true, if_false, β50]; rfl
        · have q1 := chP_50 (j := 3) (x := nI (1 + 1)) c1 (by decide)
          have q2 := chP_50 (j := 15) (x := nI (tx 1 - 48)) q1 (by decide)
          simp only [wI_get, upd_get, Nat.reduceEqDiff, reduceIte, if_true, if_false] at q2
          exact q2
        · simp only [wI_get, upd_get, Nat.reduceEqDiff, reduceIte, if_true, if_false]
      · simp only [e104_52, e104_55, e104_56, e104_59, e104_61, e104_64, e104_65, true_or, or_true, true_and, and_true, Option.toList, List.cons_append, List.nil_append, if_true, if_false, reduceIte, wI_get, upd_get, Nat.reduceEqDiff, reduceIte, if_true, if_false, sk50]
        have he : (prn tx tn (tn - 1) 1 (1, (0, 0, fun _ => 0, fun _ => 0, fun _ => 0, fun _ => 0), fun _ => 0, 0, 0, 0)).1 = 1 := by
          by_cases hl1 : 1 < tn
          · have hs2 : pst (1, (0, 0, fun _ => 0, fun _ => 0, fun _ => 0, fun _ => 0), fun _ => 0, 0, 0, 0) (tx 1) = none := by simp [pst]; omega
            rw [prn_at hl1, hs2]; rfl
          · rw [prn_tn (by omega)]
            dsimp only
            rw [if_neg (by decide), show tn = 1 by omega]; rfl
        have := hQ' (ab_wI β 50 (upd (β.1 50) 15 (-9))) (chP_50 c1 (by decide))
        rw [he] at this
        exact this (fun z => absurd z (by decide))
    · have hs : pst p00 (tx 0) = none := by simp [pst, p00, h81]
      simp only [e104_27, e104_28, e104_31, e104_32, e104_33, e104_35, e104_38, e104_39, true_or, or_true, true_and, and_true, Option.toList, List.cons_append, List.nil_append, if_true, if_false, reduceIte, e0, sk50, sr50_1, sk51, sn51, in_eq (j := 0) (n := 64) (by omega) (by decide), show ((0 : Int32).toNatClampNeg) = 0 from rfl, x0.2, n81, eq_false h81, show ab_in 0 64 = True from in_eq (j := 0) (n := 64) (by decide) (by decide)]
      have := hQ' α c0
      rw [prn_at (by omega), hs] at this
      exact this (fun z => absurd z (nI_m9 (by decide)))
