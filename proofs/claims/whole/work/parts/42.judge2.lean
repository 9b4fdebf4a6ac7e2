/-! JUDGE, WHOLE -/
theorem bgn_chM (σ : ab_St) (P : Nat) : chM σ (bgn σ P) := ⟨fun c hc => by
  have n1 : ¬ c = 50 := fun e => hc (e ▸ (by decide : 50 ∈ mS))
  have n2 : ¬ c = 65 := fun e => hc (e ▸ (by decide : 65 ∈ mS))
  rw [bgn_get, if_neg n1, if_neg n2], (sam_bgn σ P).2.1⟩
theorem thr_chM (σ : ab_St) : chM σ (ab_wI σ 50 (upd (σ.1 50) 0 0)) := chM_50 (chM_rf σ) (fun k hk => by
  simp only [List.mem_cons, List.not_mem_nil, or_false] at hk
  rw [upd_ne _ _ (by omega)])
theorem p10_itn (n : Nat) : itn (fun _ a => a * 10) n 1 = 10 ^ n := by
  induction n with
  | zero => rfl
  | succ n ih =>
    show itn (fun _ a => a * 10) n 1 * 10 = 10 ^ (n + 1)
    rw [ih, Nat.pow_succ]
theorem sam_ch {σ τ : ab_St} {L : List Nat} (h : ch L σ τ) (hL : ∀ c ∈ L, c ∉ [0, 1, 2, 9, 11, 12, 13, 14, 15, 16, 17, 20, 21, 22, 23, 24, 25, 27, 28, 29, 30, 50, 51, 52, 53, 54, 55, 56, 62, 63, 64]) : sam σ τ := by
  have key : ∀ c, c ∈ [0, 1, 2, 9, 11, 12, 13, 14, 15, 16, 17, 20, 21, 22, 23, 24, 25, 27, 28, 29, 30, 50, 51, 52, 53, 54, 55, 56, 62, 63, 64] → τ.1 c = σ.1 c := fun c hc => h.1 c (fun z => hL c z hc)
  exact ⟨fun c hc => key c (by revert c; decide), fun k _ => by rw [key 50 (by decide)], by rw [key 9 (by decide)], by rw [key 9 (by decide)]⟩
set_option maxHeartbeats 8000000 in
theorem op_judge {B : Nat} {σ : ab_St} {x y : Int32} (hB : B < 90000) (hI : Inv B σ) : op2 B σ 60 [some (.ref 0), some (.int x), some (.int y), none, none] 132 [some (.ref 50), some (.int x), some (.int y), none, none, none] := by
  obtain ⟨tn, tx, t, f, th, sd, la, lw, h, ⟨ac, fi, hw, hf, hth, hsd, hla, ha⟩, ks, hk⟩ := id hI
  have hst := bas_stV hB h
  obtain ⟨h1, h2, h3, h4, h5, h6, h7⟩ := id h
  have hth6 : th < 64 := hst.2.2.1
  have hP := h1.1
  have hsd8 : sd < 256 := by have := two_le8 _ h1.2.1; have := h5.2.1; omega
  have s0 : sam σ (ab_wI σ 50 (upd (σ.1 50) 0 0)) := sam_50 (by decide)
  have g := bas_sam (Nat.le_refl B) s0 h
  by_cases hx : 1 ≤ x.toInt ∧ x.toInt ≤ 8
  · obtain ⟨n, hn8, rfl⟩ : ∃ k : Nat, k ≤ 8 ∧ x = nI k := by
      obtain ⟨k, hk1, hk2⟩ := inR_of (x := x) (n := 9) (by unfold inR; exact decide_eq_true (by omega)) (by decide)
      exact ⟨k, by omega, hk2⟩
    have hn1 : 1 ≤ n := by rw [nI_toInt (by omega)] at hx; omega
    have e1 : (nI n < (1 : Int32)) = False := eq_false (by rw [lt_lit, ti1]; omega)
    have e2 : ((8 : Int32) < nI n) = False := eq_false (by rw [lt_lit, ti8]; omega)
    have e3 : decide (1 ≤ (nI n).toInt ∧ (nI n).toInt ≤ 8) = true := decide_eq_true hx
    have hp := p10_le (j := n) (by omega)
    have hpp := p10_pos n
    have mloop : ∀ (τ : ab_St) (Q : Option Value → ab_St → Prop), Ev 8 132 25 [some (.ref 50), some (.int (nI n)), some (.int y), some (.int 1), some (.int 0), none] [] τ Q = Ev 8 132 42 [some (.ref 50), some (.int (nI n)), some (.int y), some (.int (nI (10 ^ n))), some (.int (nI n)), none] [] τ Q := by
      intro τ Q
      refine (ev_for (fun i (a : Nat) => Ev 8 132 25 [some (.ref 50), some (.int (nI n)), some (.int y), some (.int (nI a)), some (.int (nI i)), none] [] τ Q) (fun _ a => a * 10) 1 n ?_).trans ?_
      · intro i hi
        generalize itn (fun _ a => a * 10) i 1 = a
        rw [e132_25]
        have hlt : (nI n ≤ nI i) = False := eq_false (nI_ge hi (by omega))
        have em : nI a * 10 = nI (a * 10) := pk_mul a 10
        simp only [e132_27, e132_28, e132_31, e132_32, e132_34, e132_35, e132_36, e132_39, true_or, or_true, true_and, and_true, Option.toList, List.cons_append, List.nil_append, if_true, if_false, reduceIte, hlt, em, nI_1]
      · rw [p10_itn, e132_25]
        have hge : (nI n ≤ nI n) = True := eq_true (nI_le (Nat.le_refl _) (by omega))
        simp only [e132_27, e132_28, true_or, or_true, true_and, and_true, Option.toList, List.cons_append, List.nil_append, if_true, if_false, reduceIte, hge]
    by_cases hy : inR y (10 ^ n) = true
    · obtain ⟨r, hr, rfl⟩ := inR_of hy (by omega)
      have d1 : (nI r < 0) = False := eq_false (nI_pos (by omega))
      have d2 : (nI r < nI (10 ^ n)) = True := eq_true (nI_lt hr (by omega))
      refine op2_q (.int (jgR t th (fun j => r / 10 ^ (n - 1 - j) % 10) n 0 f sd la)) hI ?_
      have c35' := fun Q => c35 (d := 6) (c := 18) (w := 19) (c2 := 16) (w2 := 17) (σ := σ) (Q := Q) sk18 sk16 rfl rfl sk19 sk17 sn19 sn17 (by decide)
      simp only [e60_0, e60_1, e60_2, e60_5, e60_6, e60_8, e60_11, e60_12, e60_15, e60_16, e60_19, e60_20, e60_21, e60_27, e60_28, e60_31, e60_32, e60_35, e60_38, e60_39, true_or, or_true, true_and, and_true, Option.toList, List.cons_append, List.nil_append, if_true, if_false, reduceIte, e1, e2, d1, in_eq (j := n) (n := 9) (by omega) (by decide), nI_clamp (n := n) (by omega), pw_eq (j := n) (by omega), d2, sk0, sr0_3, sr0_4, sk16, sk18, c35']
      have hch : ch [18, 19] σ (ab_wI (ab_wI σ 19 (cpN 6 (σ.1 17) (σ.1 19))) 18 (upd (upd (upd (upd (σ.1 18) 1 (σ.1 16 1)) 2 (σ.1 16 2)) 3 (σ.1 16 3)) 4 (σ.1 16 4))) := ch_w (ch_w (ch_rf _ σ) (by decide)) (by decide)
      have hr31 : r < 2 ^ 31 := by omega
      refine jg_cls (n := n) h1 hn8 hr31 n 0 f sd la _ _ (by omega) ⟨fun p hp2 => ?_, ?_, hth6, hst.2.2.2⟩ (fun p hp2 => by have := h5.2.2.2.2 p (bit_lt h5.1 hp2); omega) ?_ ?_ hsd8 (tdV_ag h3 (fun c hc => hch.1 c (by revert c; decide))) (fun υ hυ => ⟨rfl, sam_ch (ch_tr hch hυ) (by decide), ?_⟩)
      · rw [sr18_0]
        simp only [wI_get, upd_get, Nat.reduceEqDiff, reduceIte, if_true, if_false]
        rw [cp6 (by have := bit_lt h5.1 hp2; omega)]
        exact (h6.1 p (bit_lt h5.1 hp2)).1
      · simp only [wI_get, upd_get, Nat.reduceEqDiff, reduceIte, if_true, if_false]; exact h6.2.1
      · simp only [wI_get, upd_get, Nat.reduceEqDiff, reduceIte, if_true, if_false]; exact h6.2.2.2.1
      · simp only [wI_get, upd_get, Nat.reduceEqDiff, reduceIte, if_true, if_false]; exact h6.2.2.2.2.2.1
      · have sυ := sam_ch (ch_tr hch hυ) (by decide)
        have hυ2 := bas_sam (Nat.le_refl B) sυ h
        have tυ := thr_chM υ
        have g := bas_sam (Nat.le_refl B) (chM_sam tυ) hυ2
        simp only [e132_0, e132_1, e132_2, true_or, or_true, true_and, and_true, Option.toList, List.cons_append, List.nil_append, if_true, if_false, reduceIte, sk50]
        generalize ab_wI υ 50 (upd (υ.1 50) 0 0) = τ at tυ g
        simp only [e132_5, e132_6, e132_7, e132_8, e132_11, e132_14, e132_20, e132_21, e132_22, e132_23, true_or, or_true, true_and, and_true, Option.toList, List.cons_append, List.nil_append, if_true, if_false, reduceIte, sk50, c101, in18, e3, bI_0, Bool.true_eq_false]
        rw [mloop]
        have gm := bas_mlV hB g
        have s1 := bgn_chM τ (tP t)
        have g2 := bas_sam (Nat.le_refl B) (chM_sam s1) g
        obtain ⟨g1, -, -, g4, g5, g6, -⟩ := id g
        simp only [e132_42, e132_43, e132_44, e132_45, e132_46, e132_47, e132_48, e132_49, e132_52, e132_58, e132_59, e132_62, e132_63, true_or, or_true, true_and, and_true, Option.toList, List.cons_append, List.nil_append, if_true, if_false, reduceIte, sk50, c101, inL (x := nI r) (n := 10 ^ n) (by omega), hy, bI_0, Bool.true_eq_false, c112 g4.1 g1.1]
        refine jg_mod (n := n) h1 hn8 hr31 n 0 f sd la _ _ (by omega) gm (fun p hp2 => by have := h5.2.2.2.2 p (bit_lt h5.1 hp2); omega) ((bgn_29 τ _).trans g6.2.2.2.2.1) ((bgn_30 τ _).trans g6.2.2.2.2.2.2.1) hsd8 g2.2.2.2.1 (fun ω hω => ⟨rfl, chM_sam (chM_tr tυ (chM_tr s1 hω))⟩)
    · have hy : inR y (10 ^ n) = false := by simpa using hy
      refine op2_q (.int (-2)) hI ?_
      have key : Ev 8 132 0 [some (.ref 50), some (.int (nI n)), some (.int y), none, none, none] [] σ (fun r σ2 => r = some (.int (-2)) ∧ sam σ σ2) := by
        simp only [e132_0, e132_1, e132_2, true_or, or_true, true_and, and_true, Option.toList, List.cons_append, List.nil_append, if_true, if_false, reduceIte, sk50]
        generalize ab_wI σ 50 (upd (σ.1 50) 0 0) = τ at s0 g
        simp only [e132_5, e132_6, e132_7, e132_8, e132_11, e132_14, e132_20, e132_21, e132_22, e132_23, true_or, or_true, true_and, and_true, Option.toList, List.cons_append, List.nil_append, if_true, if_false, reduceIte, sk50, c101, in18, e3, bI_0, Bool.true_eq_false]
        rw [mloop]
        simp only [e132_42, e132_43, e132_44, e132_45, e132_46, e132_47, e132_48, e132_49, e132_52, e132_55, e132_57, true_or, or_true, true_and, and_true, Option.toList, List.cons_append, List.nil_append, if_true, if_false, reduceIte, c101, inL (x := y) (n := 10 ^ n) (by omega), hy, bI_0]
        exact s0
      have hy2 : y.toInt < 0 ∨ (10 ^ n : Nat) ≤ y.toInt := by
        unfold inR at hy
        have := of_decide_eq_false hy
        omega
      have d2 : (y < nI (10 ^ n)) = (y.toInt < (10 ^ n : Nat)) := by rw [lt_lit, nI_toInt (by omega)]
      simp only [e60_0, e60_1, e60_2, e60_5, e60_6, e60_8, e60_11, e60_12, e60_15, e60_16, e60_19, e60_20, e60_21, e60_24, e60_26, e60_27, e60_28, e60_31, e60_32, e60_35, e60_38, e60_39, e60_41, e60_42, e60_45, e60_46, e60_49, e60_50, e60_51, e60_52, e60_53, e60_54, e60_55, e60_56, e60_58, e60_59, e60_61, e60_62, e60_65, e60_67, e60_70, e60_73, e60_74, e60_77, e60_78, e60_81, e60_83, e60_86, e60_89, e60_90, e60_91, e60_92, e60_95, e60_96, e60_99, e60_101, e60_104, e60_107, e60_110, e60_112, true_or, or_true, true_and, and_true, Option.toList, List.cons_append, List.nil_append, if_true, if_false, reduceIte, e1, e2, lt0_iff y, in_eq (j := n) (n := 9) (by omega) (by decide), nI_clamp (n := n) (by omega), pw_eq (j := n) (by omega), d2]
      by_cases z : y.toInt < 0
      · rw [if_pos z]; exact ⟨sam_rf σ, key⟩
      · rw [if_neg z, if_neg (by omega)]; exact ⟨sam_rf σ, key⟩
  · have e3 : decide (1 ≤ x.toInt ∧ x.toInt ≤ 8) = false := decide_eq_false hx
    refine op2_q (.int (-2)) hI ?_
    have key : Ev 8 132 0 [some (.ref 50), some (.int x), some (.int y), none, none, none] [] σ (fun r σ2 => r = some (.int (-2)) ∧ sam σ σ2) := by
      simp only [e132_0, e132_1, e132_2, e132_5, e132_6, e132_7, e132_8, e132_11, e132_14, e132_17, e132_19, e132_20, e132_21, e132_22, e132_23, e132_27, e132_28, e132_31, e132_32, e132_34, e132_35, e132_36, e132_39, e132_42, e132_43, e132_44, e132_45, e132_46, e132_47, e132_48, e132_49, e132_52, e132_55, e132_57, e132_58, e132_59, e132_62, e132_63, e132_67, e132_68, e132_71, e132_72, e132_74, e132_75, e132_76, e132_77, e132_78, e132_79, e132_81, e132_82, e132_84, e132_85, e132_87, e132_90, e132_93, e132_94, e132_96, e132_99, e132_102, e132_104, e132_105, e132_106, e132_108, e132_111, e132_114, e132_117, e132_119, true_or, or_true, true_and, and_true, Option.toList, List.cons_append, List.nil_append, if_true, if_false, reduceIte, sk50, c101, in18, e3, bI_0]
      exact s0
    simp only [e60_0, e60_1, e60_2, e60_5, e60_6, e60_8, e60_24, e60_26, true_or, or_true, true_and, and_true, Option.toList, List.cons_append, List.nil_append, if_true, if_false, reduceIte, lt_lit, ti1, ti8]
    by_cases z : x.toInt < 1
    · rw [if_pos z]; exact ⟨sam_rf σ, key⟩
    · rw [if_neg z, if_pos (by omega)]; exact ⟨sam_rf σ, key⟩
