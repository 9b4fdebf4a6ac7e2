/-! SAY -/
theorem bit_new {sd S s : Nat} (h : sd < 2 ^ S) (hs : s < S) : sd ||| 2 ^ s < 2 ^ S := Nat.or_lt_two_pow h (Nat.pow_lt_pow_right (by decide) hs)
set_option maxHeartbeats 8000000 in
theorem op_say {B : Nat} {σ : ab_St} {x : Int32} (hB : B < 90000) (hI : Inv B σ) : op2 B σ 47 [some (.ref 0), some (.int x), none] 123 [some (.ref 50), some (.int x)] := by
  obtain ⟨tn, tx, t, f, th, sd, la, lw, h, ⟨ac, fi, hw, hf, hth, hsd, hla, ha⟩, ks, hk⟩ := id hI
  have hst := bas_stV hB h
  obtain ⟨h1, h2, h3, h4, h5, h6, h7⟩ := id h
  have hth6 : th < 64 := hst.2.2.1
  have hls := lst_lt th f
  have hP := h1.1
  have hS := h1.2.1
  have hsd8 : sd < 256 := by have := two_le8 _ h1.2.1; have := h5.2.1; omega
  have s0 : sam σ (ab_wI σ 50 (upd (σ.1 50) 0 0)) := sam_50 (by decide)
  have g := bas_sam (Nat.le_refl B) s0 h
  by_cases hx : inR x (tS t) = true
  · obtain ⟨s, hs, rfl⟩ := inR_of hx (by omega)
    cases hb : alw t f th sd la s
    · refine op2_q (.int (-3)) hI ?_
      simp only [e47_0, e47_1, e47_4, e47_5, e47_8, e47_11, e47_12, e47_13, e47_14, e47_17, e47_18, e47_21, e47_22, e47_25, e47_28, e47_30, e47_31, e47_32, e47_35, e47_38, e47_39, e47_40, e47_41, e47_42, e47_45, e47_46, e47_49, e47_50, e47_53, e47_54, e47_57, e47_58, e47_61, e47_62, e47_65, e47_66, e47_69, e47_72, e47_73, e47_74, true_or, or_true, true_and, and_true, Option.toList, List.cons_append, List.nil_append, if_true, if_false, reduceIte, sk0, sr0_2, sr0_3, sk11, sk16, c31 (d := 7) (x := nI s) sk11 h3.2.1 h1.2.1, hx, bI_0, Bool.true_eq_false, c46 (d := 5) stO16 hst h6.2.2.2.1 h6.2.2.2.2.2.1 hsd8 tdO11 h1 h3 hs, hb]
      refine ⟨sam_rf σ, ?_⟩
      simp only [e123_0, e123_1, e123_2, true_or, or_true, true_and, and_true, Option.toList, List.cons_append, List.nil_append, if_true, if_false, reduceIte, sk50]
      generalize ab_wI σ 50 (upd (σ.1 50) 0 0) = τ at s0 g
      have gm := bas_mlV hB g
      have g2 := bas_sam (Nat.le_refl B) (sam_bgn τ (tP t)) g
      obtain ⟨g1, -, -, g4, g5, g6, -⟩ := id g
      simp only [e123_0, e123_1, e123_2, e123_5, e123_6, e123_7, e123_10, e123_13, e123_14, e123_15, e123_16, e123_19, e123_20, e123_21, e123_24, e123_27, e123_29, e123_30, e123_31, e123_34, e123_35, e123_36, e123_39, e123_40, e123_41, e123_42, e123_43, e123_46, e123_47, e123_50, e123_51, e123_54, e123_55, e123_56, e123_57, e123_58, e123_59, e123_62, e123_63, e123_64, e123_65, e123_66, e123_67, e123_68, e123_71, e123_72, e123_75, e123_76, e123_79, e123_80, e123_81, e123_82, true_or, or_true, true_and, and_true, Option.toList, List.cons_append, List.nil_append, if_true, if_false, reduceIte, sk50, c119 g4.2.1 g1.2.1, hx, bI_0, Bool.not_true, Bool.true_eq_false, c112 g4.1 g1.1, c122 (d := 5) g1 g2.2.2.2.1 gm ((bgn_29 τ _).trans g6.2.2.2.2.1) ((bgn_30 τ _).trans g6.2.2.2.2.2.2.1) hsd8 hs, hb]
      exact sam_tr s0 (sam_bgn τ _)
    · obtain ⟨p, hpe⟩ : ∃ p, tw t s = p := ⟨_, rfl⟩
      have hp : p < tP t := by rw [← hpe]; exact (h1.2.2 s hs).1
      have hz9 := (h1.2.2 s hs).2.2.1
      refine op2_v (.int (nI (f p + tz t s))) ?_
      have r16 := rmb_get σ p fi ac 16 rfl
      have r17 := rmb_get σ p fi ac 17 rfl
      have r50 := rmb_get σ p fi ac 50 rfl
      have r52 := rmb_get σ p fi ac 52 rfl
      have r62 := rmb_get σ p fi ac 62 rfl
      have w17 := (h6.1 p hp).1
      have w52 := (h6.1 p hp).2
      have who1 : σ.1 12 s = nI p := by rw [← hpe]; exact (h3.2.2 s hs).1
      have tdr : tdV (rmb σ p fi ac) 11 t := tdV_ag h3 (ag_sub (rmb_ag σ p fi ac) (by decide))
      have u49 := fun Q => c49 (d := 7) (c := 16) (w := 17) (c2 := 11) (s := s) (t := t) (sd := sd) (x := f p) (σ := rmb σ p fi ac) (Q := Q) sk16 rfl sk17 sn17 tdO11 h1 tdr hs (by rw [r17, hpe]; exact w17) (by rw [r16]; exact h6.2.2.2.1) hsd8 (by decide) (by decide) (by decide)
      rw [hpe] at u49
      simp only [e47_0, e47_1, e47_4, e47_5, e47_8, e47_11, e47_12, e47_13, e47_14, e47_17, e47_18, e47_21, e47_22, e47_25, e47_28, e47_30, e47_31, e47_32, e47_35, e47_38, e47_39, e47_40, e47_41, e47_42, e47_45, e47_46, e47_49, e47_50, e47_53, e47_54, e47_57, e47_58, e47_61, e47_62, e47_65, e47_66, e47_69, e47_72, e47_73, e47_74, true_or, or_true, true_and, and_true, Option.toList, List.cons_append, List.nil_append, if_true, if_false, reduceIte, sk0, sr0_2, sr0_3, sr0_5, sr16_0, sr11_0, sk11, sk12, sn12, sk16, sk17, sn17, sk20, c31 (d := 7) (x := nI s) sk11 h3.2.1 h1.2.1, hx, bI_0, Bool.true_eq_false, c46 (d := 5) stO16 hst h6.2.2.2.1 h6.2.2.2.2.2.1 hsd8 tdO11 h1 h3 hs, hb, in_eq (j := s) (n := 8) (by omega) (by decide), nI_clamp (n := s) (by omega), who1, c48 (d := 7) (p := p) (by omega) ha.2.2.1 ha.2.2.2.1 ha.2.1 ha.1, u49, in_eq (j := p) (n := 6) (by omega) (by decide), nI_clamp (n := p) (by omega), r17, wI_get, upd_get, Nat.reduceEqDiff, reduceIte, if_true, if_false, r16]
      generalize hς : ab_wI (ab_wI (rmb σ p fi ac) 17 (upd (σ.1 17) p (nI (f p + tz t s)))) 16 (upd (upd (σ.1 16) 2 (nI (sd ||| 2 ^ s))) 3 (nI s)) = ς
      have q50 : ς.1 50 = σ.1 50 := by rw [← hς]; simp only [wI_get, upd_get, Nat.reduceEqDiff, reduceIte, if_true, if_false, r50]
      have q52 : ς.1 52 = σ.1 52 := by rw [← hς]; simp only [wI_get, upd_get, Nat.reduceEqDiff, reduceIte, if_true, if_false, r52]
      have q62 : ς.1 62 = σ.1 62 := by rw [← hς]; simp only [wI_get, upd_get, Nat.reduceEqDiff, reduceIte, if_true, if_false, r62]
      have hag : ag [0, 1, 2, 9, 11, 12, 13, 14, 15, 27, 28, 29, 30, 51, 53, 54, 55, 56, 63, 64] σ ς := by rw [← hς]; exact ag_w (ag_w (rmb_ag σ p fi ac) (by decide)) (by decide)
      simp only [e123_0, e123_1, e123_2, true_or, or_true, true_and, and_true, Option.toList, List.cons_append, List.nil_append, if_true, if_false, reduceIte, sk50, q50]
      generalize hτ : ab_wI ς 50 (upd (σ.1 50) 0 0) = τ
      have t50 : τ.1 50 = upd (σ.1 50) 0 0 := by rw [← hτ, wI_eq]
      have to : ∀ c, c ≠ 50 → τ.1 c = ς.1 c := fun c hc => by rw [← hτ, wI_ne _ _ hc]
      have hagτ : ag [0, 1, 2, 9, 11, 12, 13, 14, 15, 27, 28, 29, 30, 51, 53, 54, 55, 56, 63, 64] σ τ := by rw [← hτ]; exact ag_w hag (by decide)
      have gm : mlV (bgn τ (tP t)) (tP t) f th := by
        refine ⟨?_, fun q hq => ?_, ?_, h5.1, h1.1, fun q hq => by have := h5.2.2.2.2 q (bit_lt h5.1 hq); omega⟩
        · simp only [bgn_get, wI_get, upd_get, Nat.reduceEqDiff, reduceIte, if_true, if_false, t50]; exact h4.1
        · rw [bgn_w (bit_lt h5.1 hq), to 52 (by decide), q52]; exact (h6.1 q (bit_lt h5.1 hq)).2
        · simp only [bgn_get, wI_get, upd_get, Nat.reduceEqDiff, reduceIte, if_true, if_false, t50]; exact h6.2.2.1
      have v5 : τ.1 50 5 = nI (tP t) := by rw [t50, upd_ne _ _ (by decide)]; exact h4.1
      have v8 : τ.1 50 8 = nI (tS t) := by rw [t50, upd_ne _ _ (by decide)]; exact h4.2.1
      have v25 : (bgn τ (tP t)).1 50 25 = nI ac := by simp only [bgn_get, wI_get, upd_get, Nat.reduceEqDiff, reduceIte, if_true, if_false, t50]; exact ha.2.2.2.2.1
      have v29 : (bgn τ (tP t)).1 50 29 = nI sd := by simp only [bgn_get, wI_get, upd_get, Nat.reduceEqDiff, reduceIte, if_true, if_false, t50]; exact h6.2.2.2.2.1
      have v30 : (bgn τ (tP t)).1 50 30 = la := by simp only [bgn_get, wI_get, upd_get, Nat.reduceEqDiff, reduceIte, if_true, if_false, t50]; exact h6.2.2.2.2.2.2.1
      have mdb : mdV (bgn τ (tP t)) t := mdV_ag h4 (bgn_ag (ag_sub hagτ (by decide)) (by decide) (by decide)) (fun k hk2 => by
        simp only [List.mem_cons, List.not_mem_nil, or_false] at hk2
        rcases hk2 with rfl | rfl <;> simp only [bgn_get, wI_get, upd_get, Nat.reduceEqDiff, reduceIte, if_true, if_false, t50])
      have m53 : τ.1 53 s = nI p := by rw [hagτ 53 (by decide), ← hpe]; exact (h4.2.2 s hs).1
      have m54 : τ.1 54 s = nI (tz t s) := by rw [hagτ 54 (by decide)]; exact (h4.2.2 s hs).2.1
      have esd : nI sd ||| 1 <<< (nI s &&& 31) = nI (sd ||| 2 ^ s) := nI_set (by omega) (by omega)
      simp only [e123_0, e123_1, e123_2, e123_5, e123_6, e123_7, e123_10, e123_13, e123_14, e123_15, e123_16, e123_19, e123_20, e123_21, e123_24, e123_27, e123_29, e123_30, e123_31, e123_34, e123_35, e123_36, e123_39, e123_40, e123_41, e123_42, e123_43, e123_46, e123_47, e123_50, e123_51, e123_54, e123_55, e123_56, e123_57, e123_58, e123_59, e123_62, e123_63, e123_64, e123_65, e123_66, e123_67, e123_68, e123_71, e123_72, e123_75, e123_76, e123_79, e123_80, e123_81, e123_82, true_or, or_true, true_and, and_true, Option.toList, List.cons_append, List.nil_append, if_true, if_false, reduceIte, sk50, c119 v8 h1.2.1, hx, bI_0, Bool.not_true, Bool.true_eq_false, c112 v5 h1.1, c122 (d := 5) h1 mdb gm v29 v30 hsd8 hs, hb, c124 v25 ha.1, sr50_6, sr50_9, sr50_10, sk52, sn52, sk53, sn53, sk54, sn54, in_eq (j := s) (n := 8) (by omega) (by decide), nI_clamp (n := s) (by omega), m53, m54, in_eq (j := p) (n := 6) (by omega) (by decide), nI_clamp (n := p) (by omega), wI_get, upd_get, Nat.reduceEqDiff, reduceIte, if_true, if_false, bgn_get, to 52 (by decide), to 62 (by decide), q52, q62, t50, w52, nI_add, h6.2.2.2.2.1, esd]
      refine act_inv (f2 := fun q => if q = p then f p + tz t s else f q) (th2 := th) (sd2 := sd ||| 2 ^ s) (la2 := nI s) (p := p) (fi := fi) (ac := ac) h ha hk hp (fun q _ hq => by simp only [if_neg hq]) ⟨h5.1, bit_new h5.2.1 hs, Or.inr ⟨s, hs, rfl⟩, h5.2.2.2.1, fun q hq => by
        have := h5.2.2.2.2 q hq
        have := h5.2.2.2.2 p hp
        show (if q = p then f p + tz t s else f q) ≤ B + 9
        split <;> omega⟩ ?_ ?_ ?_ ?_ ?_ ?_ ?_ ?_ ?_ ?_ ?_
      · simp only [wI_get, upd_get, Nat.reduceEqDiff, reduceIte, if_true, if_false, bgn_get, to 20 (by decide)]; rw [← hς]; simp only [wI_get, upd_get, Nat.reduceEqDiff, reduceIte, if_true, if_false]
      · simp only [wI_get, upd_get, Nat.reduceEqDiff, reduceIte, if_true, if_false, bgn_get, to 21 (by decide)]; rw [← hς]; simp only [wI_get, upd_get, Nat.reduceEqDiff, reduceIte, if_true, if_false]
      · simp only [wI_get, upd_get, Nat.reduceEqDiff, reduceIte, if_true, if_false, bgn_get, to 22 (by decide)]; rw [← hς]; simp only [wI_get, upd_get, Nat.reduceEqDiff, reduceIte, if_true, if_false]
      · simp only [wI_get, upd_get, Nat.reduceEqDiff, reduceIte, if_true, if_false, bgn_get, to 23 (by decide)]; rw [← hς]; simp only [wI_get, upd_get, Nat.reduceEqDiff, reduceIte, if_true, if_false]
      · simp only [wI_get, upd_get, Nat.reduceEqDiff, reduceIte, if_true, if_false, bgn_get, to 24 (by decide)]; rw [← hς]; simp only [wI_get, upd_get, Nat.reduceEqDiff, reduceIte, if_true, if_false]
      · simp only [wI_get, upd_get, Nat.reduceEqDiff, reduceIte, if_true, if_false, bgn_get, to 25 (by decide)]; rw [← hς]; simp only [wI_get, upd_get, Nat.reduceEqDiff, reduceIte, if_true, if_false]
      · simp only [wI_get, upd_get, Nat.reduceEqDiff, reduceIte, if_true, if_false, h6.2.2.2.2.1]
      · simp only [wI_get, upd_get, Nat.reduceEqDiff, reduceIte, if_true, if_false]
      · refine ⟨fun q hq => ?_, ?_, ?_, ?_, ?_, ?_, ?_, ?_, ?_⟩
        · have e17 : ς.1 17 = upd (σ.1 17) p (nI (f p + tz t s)) := by rw [← hς]; simp only [wI_get, upd_get, Nat.reduceEqDiff, reduceIte, if_true, if_false]
          simp only [wI_get, upd_get, Nat.reduceEqDiff, reduceIte, if_true, if_false, bgn_get, to 17 (by decide), e17]
          by_cases hqp : q = p
          · simp only [if_pos hqp, and_self]
          · simp only [if_neg hqp]; exact h6.1 q hq
        · simp only [wI_get, upd_get, Nat.reduceEqDiff, reduceIte, if_true, if_false, bgn_get, to 16 (by decide)]; rw [← hς]; simp only [wI_get, upd_get, Nat.reduceEqDiff, reduceIte, if_true, if_false]; exact h6.2.1
        · simp only [wI_get, upd_get, Nat.reduceEqDiff, reduceIte, if_true, if_false]; exact h6.2.2.1
        · simp only [wI_get, upd_get, Nat.reduceEqDiff, reduceIte, if_true, if_false, bgn_get, to 16 (by decide)]; rw [← hς]; simp only [wI_get, upd_get, Nat.reduceEqDiff, reduceIte, if_true, if_false]
        · simp only [wI_get, upd_get, Nat.reduceEqDiff, reduceIte, if_true, if_false]
        · simp only [wI_get, upd_get, Nat.reduceEqDiff, reduceIte, if_true, if_false, bgn_get, to 16 (by decide)]; rw [← hς]; simp only [wI_get, upd_get, Nat.reduceEqDiff, reduceIte, if_true, if_false]
        · simp only [wI_get, upd_get, Nat.reduceEqDiff, reduceIte, if_true, if_false]
        · simp only [wI_get, upd_get, Nat.reduceEqDiff, reduceIte, if_true, if_false, bgn_get, to 16 (by decide)]; rw [← hς]; simp only [wI_get, upd_get, Nat.reduceEqDiff, reduceIte, if_true, if_false]; exact h6.2.2.2.2.2.2.2.1
        · simp only [wI_get, upd_get, Nat.reduceEqDiff, reduceIte, if_true, if_false]; exact h6.2.2.2.2.2.2.2.2
      · repeat (first | exact bgn_ag hagτ (by decide) (by decide) | refine ag_w ?_ (by decide))
      · intro k hk2
        simp only [List.mem_cons, List.not_mem_nil, or_false] at hk2
        rcases hk2 with rfl | rfl | rfl <;> simp only [wI_get, upd_get, Nat.reduceEqDiff, reduceIte, if_true, if_false]
  · have hx : inR x (tS t) = false := by simpa using hx
    refine op2_q (.int (-1)) hI ?_
    simp only [e47_0, e47_1, e47_4, e47_5, e47_8, e47_11, e47_12, e47_13, e47_14, e47_17, e47_18, e47_21, e47_22, e47_25, e47_28, e47_30, e47_31, e47_32, e47_35, e47_38, e47_39, e47_40, e47_41, e47_42, e47_45, e47_46, e47_49, e47_50, e47_53, e47_54, e47_57, e47_58, e47_61, e47_62, e47_65, e47_66, e47_69, e47_72, e47_73, e47_74, true_or, or_true, true_and, and_true, Option.toList, List.cons_append, List.nil_append, if_true, if_false, reduceIte, sk0, sr0_2, sk11, c31 (d := 7) (x := x) sk11 h3.2.1 h1.2.1, hx, bI_0]
    refine ⟨sam_rf σ, ?_⟩
    simp only [e123_0, e123_1, e123_2, true_or, or_true, true_and, and_true, Option.toList, List.cons_append, List.nil_append, if_true, if_false, reduceIte, sk50]
    generalize ab_wI σ 50 (upd (σ.1 50) 0 0) = τ at s0 g
    obtain ⟨g1, -, -, g4, g5, g6, -⟩ := id g
    simp only [e123_0, e123_1, e123_2, e123_5, e123_6, e123_7, e123_10, e123_13, e123_14, e123_15, e123_16, e123_19, e123_20, e123_21, e123_24, e123_27, e123_29, e123_30, e123_31, e123_34, e123_35, e123_36, e123_39, e123_40, e123_41, e123_42, e123_43, e123_46, e123_47, e123_50, e123_51, e123_54, e123_55, e123_56, e123_57, e123_58, e123_59, e123_62, e123_63, e123_64, e123_65, e123_66, e123_67, e123_68, e123_71, e123_72, e123_75, e123_76, e123_79, e123_80, e123_81, e123_82, true_or, or_true, true_and, and_true, Option.toList, List.cons_append, List.nil_append, if_true, if_false, reduceIte, sk50, c119 g4.2.1 g1.2.1, hx, bI_0, Bool.not_false, Bool.true_eq_false]
    exact s0
