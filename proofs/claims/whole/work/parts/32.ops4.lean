/-! TALK, SAY -/
theorem bgn_get (σ : ab_St) (P c : Nat) : (bgn σ P).1 c = if c = 50 then upd (upd (σ.1 50) 29 (σ.1 50 13)) 30 (σ.1 50 14) else if c = 65 then cpN P (σ.1 52) (σ.1 65) else σ.1 c := rfl
theorem rmb_ag (σ : ab_St) (p fi ac : Nat) : ∀ c ∈ [0, 1, 2, 9, 11, 12, 13, 14, 15, 27, 28, 29, 30, 51, 53, 54, 55, 56, 63, 64], (rmb σ p fi ac).1 c = σ.1 c := fun c hc => rmb_o σ p fi ac (by revert c; decide)
theorem bgn_ag {L : List Nat} {σ τ : ab_St} {P : Nat} (h : ag L σ τ) (h1 : 50 ∉ L) (h2 : 65 ∉ L) : ag L σ (bgn τ P) := fun c hc => by
  have n1 : ¬ c = 50 := fun e => h1 (e ▸ hc)
  have n2 : ¬ c = 65 := fun e => h2 (e ▸ hc)
  rw [bgn_get, if_neg n1, if_neg n2]
  exact h c hc
theorem in19 (x : Int32) : decide ((1 : Int64) ≤ x.toInt64 ∧ x.toInt64 ≤ 9) = decide (1 ≤ x.toInt ∧ x.toInt ≤ 9) := by
  congr 1
  apply propext
  rw [Int64.le_iff_toInt_le, Int64.le_iff_toInt_le, Int32.toInt_toInt64]
  exact Iff.rfl
theorem lt_lit (x : Int32) (k : Int32) : (x < k) = (x.toInt < k.toInt) := propext Int32.lt_iff_toInt_lt
theorem le_lit (x : Int32) (k : Int32) : (x ≤ k) = (x.toInt ≤ k.toInt) := propext Int32.le_iff_toInt_le
theorem ti1 : (1 : Int32).toInt = 1 := rfl
theorem ti9 : (9 : Int32).toInt = 9 := rfl
set_option maxHeartbeats 8000000 in
theorem op_talk {B : Nat} {σ : ab_St} {x y : Int32} (hB : B < 90000) (hI : Inv B σ) : op2 B σ 50 [some (.ref 0), some (.int x), some (.int y)] 126 [some (.ref 50), some (.int x), some (.int y)] := by
  obtain ⟨tn, tx, t, f, th, sd, la, lw, h, ⟨ac, fi, hw, hf, hth, hsd, hla, ha⟩, ks, hk⟩ := id hI
  have hst := bas_stV hB h
  obtain ⟨h1, h2, h3, h4, h5, h6, h7⟩ := id h
  have hth6 : th < 64 := hst.2.2.1
  have hls := lst_lt th f
  have hP := h1.1
  have s0 : sam σ (ab_wI σ 50 (upd (σ.1 50) 0 0)) := sam_50 (by decide)
  have g := bas_sam (Nat.le_refl B) s0 h
  by_cases hx : inR x (tP t) = true
  · obtain ⟨p, hp, rfl⟩ := inR_of hx (by omega)
    by_cases hy : 1 ≤ y.toInt ∧ y.toInt ≤ 9
    · have y1 : (y < (1 : Int32)) = False := eq_false (by rw [lt_lit, ti1]; omega)
      have y2 : (y ≤ (9 : Int32)) = True := eq_true (by rw [le_lit, ti9]; omega)
      have y3 : decide (1 ≤ y.toInt ∧ y.toInt ≤ 9) = true := decide_eq_true hy
      cases hb : (lst th f).testBit p
      · refine op2_q (.int (-3)) hI ?_
        simp only [e50_0, e50_1, e50_4, e50_5, e50_8, e50_11, e50_12, e50_13, e50_14, e50_15, e50_18, e50_19, e50_21, e50_24, e50_26, e50_27, e50_28, e50_31, e50_34, e50_35, e50_38, e50_41, e50_43, e50_44, e50_45, e50_48, e50_49, e50_52, e50_53, e50_56, e50_57, e50_60, e50_63, e50_64, e50_65, e50_66, e50_67, e50_68, e50_69, e50_70, e50_73, e50_75, e50_78, e50_79, e50_82, e50_85, e50_86, e50_87, true_or, or_true, true_and, and_true, Option.toList, List.cons_append, List.nil_append, if_true, if_false, reduceIte, sk0, sr0_2, sr0_3, sk11, sk16, c26 (d := 7) (x := nI p) sk11 h3.1 h1.1, hx, bI_0, Bool.true_eq_false, y1, y2, c38 (d := 6) stO16 hst, c32 (s := lst th f) (k := p) (by omega) (by omega), hb]
        refine ⟨sam_rf σ, ?_⟩
        simp only [e126_0, e126_1, e126_2, true_or, or_true, true_and, and_true, Option.toList, List.cons_append, List.nil_append, if_true, if_false, reduceIte, sk50]
        generalize ab_wI σ 50 (upd (σ.1 50) 0 0) = τ at s0 g
        have gm := bas_mlV hB g
        obtain ⟨g1, -, -, g4, g5, g6, -⟩ := id g
        simp only [e126_0, e126_1, e126_2, e126_5, e126_6, e126_7, e126_10, e126_13, e126_14, e126_15, e126_16, e126_17, e126_18, e126_21, e126_24, e126_27, e126_29, e126_30, e126_31, e126_34, e126_35, e126_38, e126_39, e126_42, e126_45, e126_47, e126_48, e126_49, e126_52, e126_53, e126_56, e126_57, e126_58, e126_59, e126_60, e126_61, e126_62, e126_63, e126_65, e126_68, e126_69, e126_72, e126_73, e126_74, true_or, or_true, true_and, and_true, Option.toList, List.cons_append, List.nil_append, if_true, if_false, reduceIte, sk50, c117 g4.1 g1.1, hx, bI_0, Bool.not_true, Bool.true_eq_false, c101, in19, y3, c112 g4.1 g1.1, c114 (d := 6) gm, c113 (s := lst th f) (k := p) (by omega) (by omega), hb]
        exact sam_tr s0 (sam_bgn τ _)
      · obtain ⟨k, hk9, rfl⟩ : ∃ k : Nat, k ≤ 9 ∧ y = nI k := by
          obtain ⟨k, hk1, hk2⟩ := inR_of (x := y) (n := 10) (by unfold inR; exact decide_eq_true (by omega)) (by decide)
          exact ⟨k, by omega, hk2⟩
        refine op2_v (.int (nI (f p + k))) ?_
        have r16 := rmb_get σ p fi ac 16 rfl
        have r17 := rmb_get σ p fi ac 17 rfl
        have r50 := rmb_get σ p fi ac 50 rfl
        have r52 := rmb_get σ p fi ac 52 rfl
        have r62 := rmb_get σ p fi ac 62 rfl
        have r65 := rmb_get σ p fi ac 65 rfl
        have w17 := (h6.1 p hp).1
        have w52 := (h6.1 p hp).2
        simp only [e50_0, e50_1, e50_4, e50_5, e50_8, e50_11, e50_12, e50_13, e50_14, e50_15, e50_18, e50_19, e50_21, e50_24, e50_26, e50_27, e50_28, e50_31, e50_34, e50_35, e50_38, e50_41, e50_43, e50_44, e50_45, e50_48, e50_49, e50_52, e50_53, e50_56, e50_57, e50_60, e50_63, e50_64, e50_65, e50_66, e50_67, e50_68, e50_69, e50_70, e50_73, e50_75, e50_78, e50_79, e50_82, e50_85, e50_86, e50_87, true_or, or_true, true_and, and_true, Option.toList, List.cons_append, List.nil_append, if_true, if_false, reduceIte, sk0, sr0_2, sr0_3, sr0_5, sr16_0, sk11, sk16, sk17, sn17, sk20, c26 (d := 7) (x := nI p) sk11 h3.1 h1.1, hx, bI_0, Bool.true_eq_false, y1, y2, c38 (d := 6) stO16 hst, c32 (s := lst th f) (k := p) (by omega) (by omega), hb, c48 (d := 7) (p := p) (by omega) ha.2.2.1 ha.2.2.2.1 ha.2.1 ha.1, in_eq (j := p) (n := 6) (by omega) (by decide), nI_clamp (n := p) (by omega), r17, w17, nI_add, wI_get, upd_get, Nat.reduceEqDiff, reduceIte, if_true, if_false, r16]
        generalize hς : ab_wI (ab_wI (rmb σ p fi ac) 17 (upd (σ.1 17) p (nI (f p + k)))) 16 (upd (σ.1 16) 3 (-9)) = ς
        have q50 : ς.1 50 = σ.1 50 := by rw [← hς]; simp only [wI_get, upd_get, Nat.reduceEqDiff, reduceIte, if_true, if_false, r50]
        have q52 : ς.1 52 = σ.1 52 := by rw [← hς]; simp only [wI_get, upd_get, Nat.reduceEqDiff, reduceIte, if_true, if_false, r52]
        have q62 : ς.1 62 = σ.1 62 := by rw [← hς]; simp only [wI_get, upd_get, Nat.reduceEqDiff, reduceIte, if_true, if_false, r62]
        simp only [e126_0, e126_1, e126_2, true_or, or_true, true_and, and_true, Option.toList, List.cons_append, List.nil_append, if_true, if_false, reduceIte, sk50, q50]
        generalize hτ : ab_wI ς 50 (upd (σ.1 50) 0 0) = τ
        have t50 : τ.1 50 = upd (σ.1 50) 0 0 := by rw [← hτ, wI_eq]
        have to : ∀ c, c ≠ 50 → τ.1 c = ς.1 c := fun c hc => by rw [← hτ, wI_ne _ _ hc]
        have gm : mlV (bgn τ (tP t)) (tP t) f th := by
          refine ⟨?_, fun q hq => ?_, ?_, h5.1, h1.1, fun q hq => by have := h5.2.2.2.2 q (bit_lt h5.1 hq); omega⟩
          · simp only [bgn_get, wI_get, upd_get, Nat.reduceEqDiff, reduceIte, if_true, if_false, t50]; exact h4.1
          · rw [bgn_w (bit_lt h5.1 hq), to 52 (by decide), q52]; exact (h6.1 q (bit_lt h5.1 hq)).2
          · simp only [bgn_get, wI_get, upd_get, Nat.reduceEqDiff, reduceIte, if_true, if_false, t50]; exact h6.2.2.1
        have v5 : τ.1 50 5 = nI (tP t) := by rw [t50, upd_ne _ _ (by decide)]; exact h4.1
        have v25 : (bgn τ (tP t)).1 50 25 = nI ac := by simp only [bgn_get, wI_get, upd_get, Nat.reduceEqDiff, reduceIte, if_true, if_false, t50]; exact ha.2.2.2.2.1
        simp only [e126_0, e126_1, e126_2, e126_5, e126_6, e126_7, e126_10, e126_13, e126_14, e126_15, e126_16, e126_17, e126_18, e126_21, e126_24, e126_27, e126_29, e126_30, e126_31, e126_34, e126_35, e126_38, e126_39, e126_42, e126_45, e126_47, e126_48, e126_49, e126_52, e126_53, e126_56, e126_57, e126_58, e126_59, e126_60, e126_61, e126_62, e126_63, e126_65, e126_68, e126_69, e126_72, e126_73, e126_74, true_or, or_true, true_and, and_true, Option.toList, List.cons_append, List.nil_append, if_true, if_false, reduceIte, sk50, c117 v5 h1.1, hx, bI_0, Bool.not_true, Bool.true_eq_false, c101, in19, y3, c112 v5 h1.1, c114 (d := 6) gm, c113 (s := lst th f) (k := p) (by omega) (by omega), hb, c124 v25 ha.1, sr50_6, sk52, sn52, in_eq (j := p) (n := 6) (by omega) (by decide), nI_clamp (n := p) (by omega), wI_get, upd_get, Nat.reduceEqDiff, reduceIte, if_true, if_false, bgn_get, to 52 (by decide), to 62 (by decide), q52, q62, t50, w52, nI_add]
        have hag : ag [0, 1, 2, 9, 11, 12, 13, 14, 15, 27, 28, 29, 30, 51, 53, 54, 55, 56, 63, 64] σ ς := by rw [← hς]; exact ag_w (ag_w (rmb_ag σ p fi ac) (by decide)) (by decide)
        have hagτ : ag [0, 1, 2, 9, 11, 12, 13, 14, 15, 27, 28, 29, 30, 51, 53, 54, 55, 56, 63, 64] σ τ := by rw [← hτ]; exact ag_w hag (by decide)
        refine act_inv (f2 := fun q => if q = p then f p + k else f q) (th2 := th) (sd2 := sd) (la2 := -9) (p := p) (fi := fi) (ac := ac) h ha hk hp (fun q _ hq => by simp only [if_neg hq]) ⟨h5.1, h5.2.1, Or.inl rfl, h5.2.2.2.1, fun q hq => by
          have := h5.2.2.2.2 q hq
          have := h5.2.2.2.2 p hp
          show (if q = p then f p + k else f q) ≤ B + 9
          split <;> omega⟩ ?_ ?_ ?_ ?_ ?_ ?_ ?_ ?_ ?_ ?_ ?_
        · simp only [wI_get, upd_get, Nat.reduceEqDiff, reduceIte, if_true, if_false, bgn_get, to 20 (by decide)]; rw [← hς]; simp only [wI_get, upd_get, Nat.reduceEqDiff, reduceIte, if_true, if_false]
        · simp only [wI_get, upd_get, Nat.reduceEqDiff, reduceIte, if_true, if_false, bgn_get, to 21 (by decide)]; rw [← hς]; simp only [wI_get, upd_get, Nat.reduceEqDiff, reduceIte, if_true, if_false]
        · simp only [wI_get, upd_get, Nat.reduceEqDiff, reduceIte, if_true, if_false, bgn_get, to 22 (by decide)]; rw [← hς]; simp only [wI_get, upd_get, Nat.reduceEqDiff, reduceIte, if_true, if_false]
        · simp only [wI_get, upd_get, Nat.reduceEqDiff, reduceIte, if_true, if_false, bgn_get, to 23 (by decide)]; rw [← hς]; simp only [wI_get, upd_get, Nat.reduceEqDiff, reduceIte, if_true, if_false]
        · simp only [wI_get, upd_get, Nat.reduceEqDiff, reduceIte, if_true, if_false, bgn_get, to 24 (by decide)]; rw [← hς]; simp only [wI_get, upd_get, Nat.reduceEqDiff, reduceIte, if_true, if_false]
        · simp only [wI_get, upd_get, Nat.reduceEqDiff, reduceIte, if_true, if_false, bgn_get, to 25 (by decide)]; rw [← hς]; simp only [wI_get, upd_get, Nat.reduceEqDiff, reduceIte, if_true, if_false]
        · simp only [wI_get, upd_get, Nat.reduceEqDiff, reduceIte, if_true, if_false]
        · simp only [wI_get, upd_get, Nat.reduceEqDiff, reduceIte, if_true, if_false]
        · refine ⟨fun q hq => ?_, ?_, ?_, ?_, ?_, ?_, ?_, ?_, ?_⟩
          · have e17 : ς.1 17 = upd (σ.1 17) p (nI (f p + k)) := by rw [← hς]; simp only [wI_get, upd_get, Nat.reduceEqDiff, reduceIte, if_true, if_false]
            simp only [wI_get, upd_get, Nat.reduceEqDiff, reduceIte, if_true, if_false, bgn_get, to 17 (by decide), e17]
            by_cases hqp : q = p
            · simp only [if_pos hqp, and_self]
            · simp only [if_neg hqp]; exact h6.1 q hq
          · simp only [wI_get, upd_get, Nat.reduceEqDiff, reduceIte, if_true, if_false, bgn_get, to 16 (by decide)]; rw [← hς]; simp only [wI_get, upd_get, Nat.reduceEqDiff, reduceIte, if_true, if_false]; exact h6.2.1
          · simp only [wI_get, upd_get, Nat.reduceEqDiff, reduceIte, if_true, if_false]; exact h6.2.2.1
          · simp only [wI_get, upd_get, Nat.reduceEqDiff, reduceIte, if_true, if_false, bgn_get, to 16 (by decide)]; rw [← hς]; simp only [wI_get, upd_get, Nat.reduceEqDiff, reduceIte, if_true, if_false]; exact h6.2.2.2.1
          · simp only [wI_get, upd_get, Nat.reduceEqDiff, reduceIte, if_true, if_false]; exact h6.2.2.2.2.1
          · simp only [wI_get, upd_get, Nat.reduceEqDiff, reduceIte, if_true, if_false, bgn_get, to 16 (by decide)]; rw [← hς]; simp only [wI_get, upd_get, Nat.reduceEqDiff, reduceIte, if_true, if_false]
          · simp only [wI_get, upd_get, Nat.reduceEqDiff, reduceIte, if_true, if_false]
          · simp only [wI_get, upd_get, Nat.reduceEqDiff, reduceIte, if_true, if_false, bgn_get, to 16 (by decide)]; rw [← hς]; simp only [wI_get, upd_get, Nat.reduceEqDiff, reduceIte, if_true, if_false]; exact h6.2.2.2.2.2.2.2.1
          · simp only [wI_get, upd_get, Nat.reduceEqDiff, reduceIte, if_true, if_false]; exact h6.2.2.2.2.2.2.2.2
        · repeat (first | exact bgn_ag hagτ (by decide) (by decide) | refine ag_w ?_ (by decide))
        · intro k hk2
          simp only [List.mem_cons, List.not_mem_nil, or_false] at hk2
          rcases hk2 with rfl | rfl | rfl <;> simp only [wI_get, upd_get, Nat.reduceEqDiff, reduceIte, if_true, if_false]
    · refine op2_q (.int (-2)) hI ?_
      have y3 : decide (1 ≤ y.toInt ∧ y.toInt ≤ 9) = false := decide_eq_false hy
      have key : Ev 8 126 0 [some (.ref 50), some (.int (nI p)), some (.int y)] [] σ (fun r σ2 => r = some (.int (-2)) ∧ sam σ σ2) := by
        simp only [e126_0, e126_1, e126_2, true_or, or_true, true_and, and_true, Option.toList, List.cons_append, List.nil_append, if_true, if_false, reduceIte, sk50]
        generalize ab_wI σ 50 (upd (σ.1 50) 0 0) = τ at s0 g
        obtain ⟨g1, -, -, g4, g5, g6, -⟩ := id g
        simp only [e126_0, e126_1, e126_2, e126_5, e126_6, e126_7, e126_10, e126_13, e126_14, e126_15, e126_16, e126_17, e126_18, e126_21, e126_24, e126_27, e126_29, e126_30, e126_31, e126_34, e126_35, e126_38, e126_39, e126_42, e126_45, e126_47, e126_48, e126_49, e126_52, e126_53, e126_56, e126_57, e126_58, e126_59, e126_60, e126_61, e126_62, e126_63, e126_65, e126_68, e126_69, e126_72, e126_73, e126_74, true_or, or_true, true_and, and_true, Option.toList, List.cons_append, List.nil_append, if_true, if_false, reduceIte, sk50, c117 g4.1 g1.1, hx, bI_0, Bool.not_true, Bool.true_eq_false, c101, in19, y3]
        exact s0
      simp only [e50_0, e50_1, e50_4, e50_5, e50_8, e50_11, e50_12, e50_13, e50_14, e50_15, e50_18, e50_19, e50_21, e50_24, e50_26, e50_27, e50_28, e50_31, e50_34, e50_35, e50_38, e50_41, e50_43, e50_44, e50_45, e50_48, e50_49, e50_52, e50_53, e50_56, e50_57, e50_60, e50_63, e50_64, e50_65, e50_66, e50_67, e50_68, e50_69, e50_70, e50_73, e50_75, e50_78, e50_79, e50_82, e50_85, e50_86, e50_87, true_or, or_true, true_and, and_true, Option.toList, List.cons_append, List.nil_append, if_true, if_false, reduceIte, sk0, sr0_2, sk11, c26 (d := 7) (x := nI p) sk11 h3.1 h1.1, hx, bI_0, Bool.true_eq_false, lt_lit, le_lit, ti1, ti9]
      by_cases z : y.toInt < 1
      · rw [if_pos z]; exact ⟨sam_rf σ, key⟩
      · rw [if_neg z, if_neg (by omega)]; exact ⟨sam_rf σ, key⟩
  · have hx : inR x (tP t) = false := by simpa using hx
    refine op2_q (.int (-1)) hI ?_
    simp only [e50_0, e50_1, e50_4, e50_5, e50_8, e50_11, e50_12, e50_13, e50_14, e50_15, e50_18, e50_19, e50_21, e50_24, e50_26, e50_27, e50_28, e50_31, e50_34, e50_35, e50_38, e50_41, e50_43, e50_44, e50_45, e50_48, e50_49, e50_52, e50_53, e50_56, e50_57, e50_60, e50_63, e50_64, e50_65, e50_66, e50_67, e50_68, e50_69, e50_70, e50_73, e50_75, e50_78, e50_79, e50_82, e50_85, e50_86, e50_87, true_or, or_true, true_and, and_true, Option.toList, List.cons_append, List.nil_append, if_true, if_false, reduceIte, sk0, sr0_2, sk11, c26 (d := 7) (x := x) sk11 h3.1 h1.1, hx, bI_0]
    refine ⟨sam_rf σ, ?_⟩
    simp only [e126_0, e126_1, e126_2, true_or, or_true, true_and, and_true, Option.toList, List.cons_append, List.nil_append, if_true, if_false, reduceIte, sk50]
    generalize ab_wI σ 50 (upd (σ.1 50) 0 0) = τ at s0 g
    obtain ⟨g1, -, -, g4, g5, g6, -⟩ := id g
    simp only [e126_0, e126_1, e126_2, e126_5, e126_6, e126_7, e126_10, e126_13, e126_14, e126_15, e126_16, e126_17, e126_18, e126_21, e126_24, e126_27, e126_29, e126_30, e126_31, e126_34, e126_35, e126_38, e126_39, e126_42, e126_45, e126_47, e126_48, e126_49, e126_52, e126_53, e126_56, e126_57, e126_58, e126_59, e126_60, e126_61, e126_62, e126_63, e126_65, e126_68, e126_69, e126_72, e126_73, e126_74, true_or, or_true, true_and, and_true, Option.toList, List.cons_append, List.nil_append, if_true, if_false, reduceIte, sk50, c117 g4.1 g1.1, hx, bI_0, Bool.not_false, Bool.true_eq_false]
    exact s0
