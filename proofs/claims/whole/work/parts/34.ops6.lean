/-! COME -/
theorem sm_cnt (th : Nat) (f : Nat → Nat) (B n : Nat) (h : ∀ p, p < n → th.testBit p = true → f p ≤ B) : sm th f n ≤ B * cnt th n := by
  induction n with
  | zero => exact Nat.zero_le _
  | succ n ih =>
    have ih := ih (fun p hp => h p (by omega))
    show smS th f n (sm th f n) ≤ B * smS th (fun _ => 1) n (cnt th n)
    unfold smS
    split
    next hb => rw [Nat.mul_add, Nat.mul_one]; have := h n (by omega) hb; omega
    next => exact ih
theorem nwc_le {th lw B : Nat} {f : Nat → Nat} (h : ∀ p, th.testBit p = true → f p ≤ B) : nwc th f lw ≤ B := by
  unfold nwc
  split
  · exact Nat.zero_le _
  · split
    · have := sm_cnt th f B 6 (fun p _ hp => h p hp)
      exact Nat.div_le_of_le_mul (by rw [Nat.mul_comm]; exact this)
    · exact mx_le th f B 6 (fun p _ hp => h p hp)
def cmS (th : Nat) (f : Nat → Nat) (i : Nat) (a : Nat × Nat × Nat) : Nat × Nat × Nat := (smS th f i a.1, mxS th f i a.2.1, smS th (fun _ => 1) i a.2.2)
theorem cmS_eq (th : Nat) (f : Nat → Nat) (n : Nat) : itn (cmS th f) n (0, 0, 0) = (sm th f n, mx th f n, cnt th n) := by
  induction n with
  | zero => rfl
  | succ n ih =>
    show cmS th f n (itn (cmS th f) n (0, 0, 0)) = _
    rw [ih]
    rfl
set_option maxHeartbeats 4000000 in
/-- the model's come from behind note on -/
theorem c127b {th lw p P : Nat} {f : Nat → Nat} {σ : ab_St} {Q : Option Value → ab_St → Prop} (v5 : σ.1 50 5 = nI P) (hP : P ≤ 6) (v7 : σ.1 50 7 = nI th) (hth : th < 2 ^ P) (v52 : ∀ q, q < P → σ.1 52 q = nI (f q)) (hf : ∀ q, q < P → f q < 100000) (v4 : σ.1 50 4 = nI lw) (hlw : lw < 3) (hp : p < P) :
    Ev 8 127 33 [some (.ref 50), some (.int (nI p)), none, none, none, none] [] σ Q = Q (some (.int (nI (nwc th f lw)))) (ab_wI (ab_wI σ 52 (upd (σ.1 52) p (nI (nwc th f lw)))) 50 (upd (upd (σ.1 50) 7 (nI (th ||| 2 ^ p))) 14 (-9))) := by
  have h64 : th < 64 := Nat.lt_of_lt_of_le hth (two_le _ hP)
  simp only [e127_33, e127_34, e127_35, e127_36, e127_37, e127_38, e127_40, e127_41]
  refine (ev_for (fun i (a : Nat × Nat × Nat) => Ev 8 127 43 [some (.ref 50), some (.int (nI p)), some (.int (nI a.1)), some (.int (nI a.2.1)), some (.int (nI a.2.2)), some (.int (nI i))] [] σ Q) (cmS th f) (0, 0, 0) P ?_).trans ?_
  · intro i hi
    have hm : mx th f i ≤ 100000 := mx_le th f 100000 i (fun q hq hb => Nat.le_of_lt (hf q (by omega)))
    rw [cmS_eq]
    unfold cmS
    dsimp only
    generalize sm th f i = a
    generalize mx th f i = b at hm
    generalize cnt th i = c
    rw [e127_43]
    have h6 : ¬ nI P ≤ nI i := nI_ge hi (by omega)
    unfold smS mxS
    cases hb : th.testBit i
    · simp only [e127_0, e127_1, e127_2, e127_5, e127_6, e127_7, e127_10, e127_13, e127_14, e127_15, e127_16, e127_19, e127_20, e127_23, e127_26, e127_28, e127_29, e127_30, e127_33, e127_34, e127_35, e127_36, e127_37, e127_38, e127_40, e127_41, e127_45, e127_46, e127_49, e127_52, e127_53, e127_56, e127_58, e127_61, e127_64, e127_67, e127_68, e127_69, e127_72, e127_74, e127_75, e127_76, e127_77, e127_78, e127_81, e127_83, e127_84, e127_85, e127_88, e127_89, e127_92, e127_94, e127_95, e127_98, e127_99, e127_100, e127_103, e127_106, e127_107, e127_110, e127_111, e127_113, e127_116, e127_117, e127_120, e127_123, e127_124, e127_127, e127_128, e127_131, e127_132, e127_135, e127_136, e127_138, e127_139, e127_142, e127_143, e127_144, e127_145, e127_146, e127_149, e127_150, e127_151, e127_152, e127_153, e127_156, e127_157, e127_159, e127_162, e127_163, e127_166, e127_167, e127_168, true_or, or_true, true_and, and_true, Option.toList, List.cons_append, List.nil_append, if_true, if_false, reduceIte, sk50, v5, v7, h6, c113 (s := th) (k := i) (by omega) (by omega), hb, bI_0, nI_1, Bool.false_eq_true]
    · have hl := hf i hi
      have le1 : (nI (f i) ≤ nI b) = ¬ (b < f i) := by rw [nI_leI (by omega) (by omega)]; exact propext ⟨fun z => by omega, fun z => by omega⟩
      simp only [e127_0, e127_1, e127_2, e127_5, e127_6, e127_7, e127_10, e127_13, e127_14, e127_15, e127_16, e127_19, e127_20, e127_23, e127_26, e127_28, e127_29, e127_30, e127_33, e127_34, e127_35, e127_36, e127_37, e127_38, e127_40, e127_41, e127_45, e127_46, e127_49, e127_52, e127_53, e127_56, e127_58, e127_61, e127_64, e127_67, e127_68, e127_69, e127_72, e127_74, e127_75, e127_76, e127_77, e127_78, e127_81, e127_83, e127_84, e127_85, e127_88, e127_89, e127_92, e127_94, e127_95, e127_98, e127_99, e127_100, e127_103, e127_106, e127_107, e127_110, e127_111, e127_113, e127_116, e127_117, e127_120, e127_123, e127_124, e127_127, e127_128, e127_131, e127_132, e127_135, e127_136, e127_138, e127_139, e127_142, e127_143, e127_144, e127_145, e127_146, e127_149, e127_150, e127_151, e127_152, e127_153, e127_156, e127_157, e127_159, e127_162, e127_163, e127_166, e127_167, e127_168, true_or, or_true, true_and, and_true, Option.toList, List.cons_append, List.nil_append, if_true, if_false, reduceIte, sk50, sk52, sn52, sr50_6, v5, v7, h6, c113 (s := th) (k := i) (by omega) (by omega), hb, bI_0, nI_1, Bool.true_eq_false, in_eq (j := i) (n := 6) (by omega) (by decide), nI_clamp (n := i) (by omega), v52 i hi, nI_add, le1]
      by_cases hlt : b < f i
      · simp only [hlt, not_true_eq_false, if_false, if_true, reduceIte] <;> rfl
      · simp only [hlt, not_false_eq_true, if_true, if_false, reduceIte] <;> rfl
  · rw [cmS_eq, e127_43]
    dsimp only
    have esm : sm th f P = sm th f 6 := (sm_stop hth hP).symm
    have emx : mx th f P = mx th f 6 := (mx_stop hth hP).symm
    have ecn : cnt th P = cnt th 6 := (sm_stop hth hP).symm
    rw [esm, emx, ecn]
    have hc := cnt_le th 6
    have hsm : sm th f 6 ≤ 6 * 100000 := sm_le th f 100000 6 (fun q _ hq => Nat.le_of_lt (hf q (bit_lt hth hq)))
    have e0 : (nI lw = 0) = (lw = 0) := propext (nI_eq (a := lw) (b := 0) (by omega) (by decide))
    have e1 : (nI lw = 1) = (lw = 1) := propext (nI_eq (a := lw) (b := 1) (by omega) (by decide))
    have e2 : (nI (cnt th 6) = 0) = (cnt th 6 = 0) := propext (nI_eq (a := cnt th 6) (b := 0) (by omega) (by decide))
    have eth : nI th ||| 1 <<< (nI p &&& 31) = nI (th ||| 2 ^ p) := nI_set (by omega) (by omega)
    have hge : nI P ≤ nI P := nI_le (Nat.le_refl P) (by omega)
    simp only [e127_0, e127_1, e127_2, e127_5, e127_6, e127_7, e127_10, e127_13, e127_14, e127_15, e127_16, e127_19, e127_20, e127_23, e127_26, e127_28, e127_29, e127_30, e127_33, e127_34, e127_35, e127_36, e127_37, e127_38, e127_40, e127_41, e127_45, e127_46, e127_49, e127_52, e127_53, e127_56, e127_58, e127_61, e127_64, e127_67, e127_68, e127_69, e127_72, e127_74, e127_75, e127_76, e127_77, e127_78, e127_81, e127_83, e127_84, e127_85, e127_88, e127_89, e127_92, e127_94, e127_95, e127_98, e127_99, e127_100, e127_103, e127_106, e127_107, e127_110, e127_111, e127_113, e127_116, e127_117, e127_120, e127_123, e127_124, e127_127, e127_128, e127_131, e127_132, e127_135, e127_136, e127_138, e127_139, e127_142, e127_143, e127_144, e127_145, e127_146, e127_149, e127_150, e127_151, e127_152, e127_153, e127_156, e127_157, e127_159, e127_162, e127_163, e127_166, e127_167, e127_168, true_or, or_true, true_and, and_true, Option.toList, List.cons_append, List.nil_append, if_true, if_false, reduceIte, sk50, sk52, sn52, sr50_6, v5, v4, v7, hge, e0, e1, e2, in_eq (j := p) (n := 6) (by omega) (by decide), nI_clamp (n := p) (by omega), wI_get, upd_get, Nat.reduceEqDiff, reduceIte, if_true, if_false, eth, wI_wI]
    unfold nwc
    by_cases h2 : cnt th 6 = 0
    · simp only [if_pos h2, if_pos (Or.inr h2 : lw = 0 ∨ cnt th 6 = 0)]; rfl
    · by_cases h0 : lw = 0
      · simp only [if_neg h2, if_pos h0, if_pos (Or.inl h0 : lw = 0 ∨ cnt th 6 = 0)]; rfl
      · have hn : ¬ (lw = 0 ∨ cnt th 6 = 0) := fun z => z.elim h0 h2
        simp only [if_neg h0, if_neg h2, if_neg hn]
        by_cases h1 : lw = 1
        · simp only [if_pos h1, h2, not_false_eq_true, true_and, pk_div (a := sm th f 6) (d := cnt th 6) (by omega) (by omega) (by omega)]
        · simp only [if_neg h1]
set_option maxHeartbeats 8000000 in
theorem op_come {B : Nat} {σ : ab_St} {x : Int32} (hB : B < 90000) (hI : Inv B σ) : op2 B σ 51 [some (.ref 0), some (.int x)] 127 [some (.ref 50), some (.int x), none, none, none, none] := by
  obtain ⟨tn, tx, t, f, th, sd, la, lw, h, ⟨ac, fi, hw, hf, hth, hsd, hla, ha⟩, ks, hk⟩ := id hI
  have hst := bas_stV hB h
  obtain ⟨h1, h2, h3, h4, h5, h6, h7⟩ := id h
  have hth6 : th < 64 := hst.2.2.1
  have hP := h1.1
  have s0 : sam σ (ab_wI σ 50 (upd (σ.1 50) 0 0)) := sam_50 (by decide)
  have g := bas_sam (Nat.le_refl B) s0 h
  by_cases hx : inR x (tP t) = true
  · obtain ⟨p, hp, rfl⟩ := inR_of hx (by omega)
    cases hb : th.testBit p
    · have hnw : nwc th f lw ≤ B := nwc_le (fun q hq => h5.2.2.2.2 q (bit_lt h5.1 hq))
      refine op2_v (.int (nI (nwc th f lw))) ?_
      have r16 := rmb_get σ p fi ac 16 rfl
      have r17 := rmb_get σ p fi ac 17 rfl
      have r50 := rmb_get σ p fi ac 50 rfl
      have r52 := rmb_get σ p fi ac 52 rfl
      have r62 := rmb_get σ p fi ac 62 rfl
      have str : stV (rmb σ p fi ac) 16 f th := by
        obtain ⟨v1, v2, v3, v4⟩ := hst
        rw [sr16_0] at v1
        exact ⟨fun q hq => by rw [sr16_0, r17]; exact v1 q hq, by rw [r16]; exact v2, v3, v4⟩
      have u52 := fun Q => c52 (d := 5) (lw := lw) (Q := Q) stO16 str (by rw [r16]; exact h6.2.2.2.2.2.2.2.1) h5.2.2.2.1
      have eth : nI th ||| 1 <<< (nI p &&& 31) = nI (th ||| 2 ^ p) := nI_set (by omega) (by omega)
      simp only [e51_0, e51_1, e51_4, e51_5, e51_8, e51_11, e51_12, e51_13, e51_14, e51_17, e51_20, e51_21, e51_24, e51_27, e51_29, e51_30, e51_31, e51_34, e51_35, e51_38, e51_39, e51_42, e51_43, e51_46, e51_49, e51_50, e51_51, e51_54, e51_57, e51_58, e51_59, e51_62, e51_63, e51_66, e51_67, e51_68, e51_69, e51_70, e51_73, e51_74, e51_77, e51_79, e51_82, e51_83, e51_86, e51_89, e51_90, e51_91, true_or, or_true, true_and, and_true, Option.toList, List.cons_append, List.nil_append, if_true, if_false, reduceIte, sk0, sr0_2, sr0_3, sr0_5, sr16_0, sk11, sk16, sk17, sn17, sk20, c26 (d := 7) (x := nI p) sk11 h3.1 h1.1, hx, bI_0, Bool.true_eq_false, h6.2.1, c32 (s := th) (k := p) (by omega) (by omega), hb, c48 (d := 7) (p := p) (by omega) ha.2.2.1 ha.2.2.2.1 ha.2.1 ha.1, u52, in_eq (j := p) (n := 6) (by omega) (by decide), nI_clamp (n := p) (by omega), r17, wI_get, upd_get, Nat.reduceEqDiff, reduceIte, if_true, if_false, r16, wI_wI, eth]
      generalize hς : ab_wI (ab_wI (rmb σ p fi ac) 17 (upd (σ.1 17) p (nI (nwc th f lw)))) 16 (upd (upd (σ.1 16) 1 (nI (th ||| 2 ^ p))) 3 (-9)) = ς
      have q50 : ς.1 50 = σ.1 50 := by rw [← hς]; simp only [wI_get, upd_get, Nat.reduceEqDiff, reduceIte, if_true, if_false, r50]
      have q52 : ς.1 52 = σ.1 52 := by rw [← hς]; simp only [wI_get, upd_get, Nat.reduceEqDiff, reduceIte, if_true, if_false, r52]
      have q62 : ς.1 62 = σ.1 62 := by rw [← hς]; simp only [wI_get, upd_get, Nat.reduceEqDiff, reduceIte, if_true, if_false, r62]
      have hag : ag [0, 1, 2, 9, 11, 12, 13, 14, 15, 27, 28, 29, 30, 51, 53, 54, 55, 56, 63, 64] σ ς := by rw [← hς]; exact ag_w (ag_w (rmb_ag σ p fi ac) (by decide)) (by decide)
      simp only [e127_0, e127_1, e127_2, true_or, or_true, true_and, and_true, Option.toList, List.cons_append, List.nil_append, if_true, if_false, reduceIte, sk50, q50]
      generalize hτ : ab_wI ς 50 (upd (σ.1 50) 0 0) = τ
      have t50 : τ.1 50 = upd (σ.1 50) 0 0 := by rw [← hτ, wI_eq]
      have to : ∀ c, c ≠ 50 → τ.1 c = ς.1 c := fun c hc => by rw [← hτ, wI_ne _ _ hc]
      have hagτ : ag [0, 1, 2, 9, 11, 12, 13, 14, 15, 27, 28, 29, 30, 51, 53, 54, 55, 56, 63, 64] σ τ := by rw [← hτ]; exact ag_w hag (by decide)
      have v5 : τ.1 50 5 = nI (tP t) := by rw [t50, upd_ne _ _ (by decide)]; exact h4.1
      have v7 : τ.1 50 7 = nI th := by rw [t50, upd_ne _ _ (by decide)]; exact h6.2.2.1
      have v25 : τ.1 50 25 = nI ac := by rw [t50, upd_ne _ _ (by decide)]; exact ha.2.2.2.2.1
      simp only [e127_5, e127_6, e127_7, e127_10, e127_13, e127_14, e127_15, e127_16, e127_19, e127_20, e127_23, e127_26, e127_28, e127_29, e127_30, true_or, or_true, true_and, and_true, Option.toList, List.cons_append, List.nil_append, if_true, if_false, reduceIte, sk50, c117 v5 h1.1, hx, bI_0, Bool.not_true, Bool.true_eq_false, v7, c113 (s := th) (k := p) (by omega) (by omega), hb, c124 v25 ha.1]
      rw [c127b (th := th) (lw := lw) (f := f) (P := tP t) (by simp only [wI_get, upd_get, Nat.reduceEqDiff, reduceIte, if_true, if_false, t50]; exact h4.1) h1.1 (by simp only [wI_get, upd_get, Nat.reduceEqDiff, reduceIte, if_true, if_false, t50]; exact h6.2.2.1) h5.1 (fun q hq => by simp only [wI_get, upd_get, Nat.reduceEqDiff, reduceIte, if_true, if_false, to 52 (by decide), q52]; exact (h6.1 q hq).2) (fun q hq => by have := h5.2.2.2.2 q hq; omega) (by simp only [wI_get, upd_get, Nat.reduceEqDiff, reduceIte, if_true, if_false, t50]; exact h6.2.2.2.2.2.2.2.2) h5.2.2.2.1 hp]
      refine ⟨rfl, ?_⟩
      refine act_inv (f2 := fun q => if q = p then nwc th f lw else f q) (th2 := th ||| 2 ^ p) (sd2 := sd) (la2 := -9) (p := p) (fi := fi) (ac := ac) h ha hk hp (fun q _ hq => by simp only [if_neg hq]) ⟨bit_new h5.1 hp, h5.2.1, Or.inl rfl, h5.2.2.2.1, fun q hq => by
        have := h5.2.2.2.2 q hq
        show (if q = p then nwc th f lw else f q) ≤ B + 9
        split <;> omega⟩ ?_ ?_ ?_ ?_ ?_ ?_ ?_ ?_ ?_ ?_ ?_
      · simp only [wI_get, upd_get, Nat.reduceEqDiff, reduceIte, if_true, if_false, to 20 (by decide)]; rw [← hς]; simp only [wI_get, upd_get, Nat.reduceEqDiff, reduceIte, if_true, if_false]
      · simp only [wI_get, upd_get, Nat.reduceEqDiff, reduceIte, if_true, if_false, to 21 (by decide)]; rw [← hς]; simp only [wI_get, upd_get, Nat.reduceEqDiff, reduceIte, if_true, if_false]
      · simp only [wI_get, upd_get, Nat.reduceEqDiff, reduceIte, if_true, if_false, to 22 (by decide)]; rw [← hς]; simp only [wI_get, upd_get, Nat.reduceEqDiff, reduceIte, if_true, if_false]
      · simp only [wI_get, upd_get, Nat.reduceEqDiff, reduceIte, if_true, if_false, to 23 (by decide)]; rw [← hς]; simp only [wI_get, upd_get, Nat.reduceEqDiff, reduceIte, if_true, if_false]
      · simp only [wI_get, upd_get, Nat.reduceEqDiff, reduceIte, if_true, if_false, to 24 (by decide)]; rw [← hς]; simp only [wI_get, upd_get, Nat.reduceEqDiff, reduceIte, if_true, if_false]
      · simp only [wI_get, upd_get, Nat.reduceEqDiff, reduceIte, if_true, if_false, to 25 (by decide)]; rw [← hς]; simp only [wI_get, upd_get, Nat.reduceEqDiff, reduceIte, if_true, if_false]
      · simp only [wI_get, upd_get, Nat.reduceEqDiff, reduceIte, if_true, if_false, to 52 (by decide), to 62 (by decide), q52, q62, t50, h6.2.2.1]
      · simp only [wI_get, upd_get, Nat.reduceEqDiff, reduceIte, if_true, if_false]
      · refine ⟨fun q hq => ?_, ?_, ?_, ?_, ?_, ?_, ?_, ?_, ?_⟩
        · have e17 : ς.1 17 = upd (σ.1 17) p (nI (nwc th f lw)) := by rw [← hς]; simp only [wI_get, upd_get, Nat.reduceEqDiff, reduceIte, if_true, if_false]
          simp only [wI_get, upd_get, Nat.reduceEqDiff, reduceIte, if_true, if_false, to 17 (by decide), to 52 (by decide), q52, e17]
          by_cases hqp : q = p
          · simp only [if_pos hqp, and_self]
          · simp only [if_neg hqp]; exact h6.1 q hq
        · simp only [wI_get, upd_get, Nat.reduceEqDiff, reduceIte, if_true, if_false, to 16 (by decide)]; rw [← hς]; simp only [wI_get, upd_get, Nat.reduceEqDiff, reduceIte, if_true, if_false]
        · simp only [wI_get, upd_get, Nat.reduceEqDiff, reduceIte, if_true, if_false]
        · simp only [wI_get, upd_get, Nat.reduceEqDiff, reduceIte, if_true, if_false, to 16 (by decide)]; rw [← hς]; simp only [wI_get, upd_get, Nat.reduceEqDiff, reduceIte, if_true, if_false]; exact h6.2.2.2.1
        · simp only [wI_get, upd_get, Nat.reduceEqDiff, reduceIte, if_true, if_false, t50]; exact h6.2.2.2.2.1
        · simp only [wI_get, upd_get, Nat.reduceEqDiff, reduceIte, if_true, if_false, to 16 (by decide)]; rw [← hς]; simp only [wI_get, upd_get, Nat.reduceEqDiff, reduceIte, if_true, if_false]
        · simp only [wI_get, upd_get, Nat.reduceEqDiff, reduceIte, if_true, if_false]
        · simp only [wI_get, upd_get, Nat.reduceEqDiff, reduceIte, if_true, if_false, to 16 (by decide)]; rw [← hς]; simp only [wI_get, upd_get, Nat.reduceEqDiff, reduceIte, if_true, if_false]; exact h6.2.2.2.2.2.2.2.1
        · simp only [wI_get, upd_get, Nat.reduceEqDiff, reduceIte, if_true, if_false, t50]; exact h6.2.2.2.2.2.2.2.2
      · repeat (first | exact hagτ | refine ag_w ?_ (by decide))
      · intro k hk2
        simp only [List.mem_cons, List.not_mem_nil, or_false] at hk2
        rcases hk2 with rfl | rfl | rfl <;> simp only [wI_get, upd_get, Nat.reduceEqDiff, reduceIte, if_true, if_false, t50]
    · refine op2_q (.int (-3)) hI ?_
      simp only [e51_0, e51_1, e51_4, e51_5, e51_8, e51_11, e51_12, e51_13, e51_14, e51_17, e51_20, e51_21, e51_24, e51_27, e51_29, e51_30, e51_31, e51_34, e51_35, e51_38, e51_39, e51_42, e51_43, e51_46, e51_49, e51_50, e51_51, e51_54, e51_57, e51_58, e51_59, e51_62, e51_63, e51_66, e51_67, e51_68, e51_69, e51_70, e51_73, e51_74, e51_77, e51_79, e51_82, e51_83, e51_86, e51_89, e51_90, e51_91, true_or, or_true, true_and, and_true, Option.toList, List.cons_append, List.nil_append, if_true, if_false, reduceIte, sk0, sr0_2, sr0_3, sk11, sk16, c26 (d := 7) (x := nI p) sk11 h3.1 h1.1, hx, bI_0, Bool.true_eq_false, h6.2.1, c32 (s := th) (k := p) (by omega) (by omega), hb]
      refine ⟨sam_rf σ, ?_⟩
      simp only [e127_0, e127_1, e127_2, true_or, or_true, true_and, and_true, Option.toList, List.cons_append, List.nil_append, if_true, if_false, reduceIte, sk50]
      generalize ab_wI σ 50 (upd (σ.1 50) 0 0) = τ at s0 g
      obtain ⟨g1, -, -, g4, g5, g6, -⟩ := id g
      simp only [e127_0, e127_1, e127_2, e127_5, e127_6, e127_7, e127_10, e127_13, e127_14, e127_15, e127_16, e127_19, e127_20, e127_23, e127_26, e127_28, e127_29, e127_30, e127_33, e127_34, e127_35, e127_36, e127_37, e127_38, e127_40, e127_41, e127_43, e127_45, e127_46, e127_49, e127_52, e127_53, e127_56, e127_58, e127_61, e127_64, e127_67, e127_68, e127_69, e127_72, e127_74, e127_75, e127_76, e127_77, e127_78, e127_81, e127_83, e127_84, e127_85, e127_88, e127_89, e127_92, e127_94, e127_95, e127_98, e127_99, e127_100, e127_103, e127_106, e127_107, e127_110, e127_111, e127_113, e127_116, e127_117, e127_120, e127_123, e127_124, e127_127, e127_128, e127_131, e127_132, e127_135, e127_136, e127_138, e127_139, e127_142, e127_143, e127_144, e127_145, e127_146, e127_149, e127_150, e127_151, e127_152, e127_153, e127_156, e127_157, e127_159, e127_162, e127_163, e127_166, e127_167, e127_168, true_or, or_true, true_and, and_true, Option.toList, List.cons_append, List.nil_append, if_true, if_false, reduceIte, sk50, c117 g4.1 g1.1, hx, bI_0, Bool.not_true, Bool.true_eq_false, g6.2.2.1, c113 (s := th) (k := p) (by omega) (by omega), hb]
      exact s0
  · have hx : inR x (tP t) = false := by simpa using hx
    refine op2_q (.int (-1)) hI ?_
    simp only [e51_0, e51_1, e51_4, e51_5, e51_8, e51_11, e51_12, e51_13, e51_14, e51_17, e51_20, e51_21, e51_24, e51_27, e51_29, e51_30, e51_31, e51_34, e51_35, e51_38, e51_39, e51_42, e51_43, e51_46, e51_49, e51_50, e51_51, e51_54, e51_57, e51_58, e51_59, e51_62, e51_63, e51_66, e51_67, e51_68, e51_69, e51_70, e51_73, e51_74, e51_77, e51_79, e51_82, e51_83, e51_86, e51_89, e51_90, e51_91, true_or, or_true, true_and, and_true, Option.toList, List.cons_append, List.nil_append, if_true, if_false, reduceIte, sk0, sr0_2, sk11, c26 (d := 7) (x := x) sk11 h3.1 h1.1, hx, bI_0]
    refine ⟨sam_rf σ, ?_⟩
    simp only [e127_0, e127_1, e127_2, true_or, or_true, true_and, and_true, Option.toList, List.cons_append, List.nil_append, if_true, if_false, reduceIte, sk50]
    generalize ab_wI σ 50 (upd (σ.1 50) 0 0) = τ at s0 g
    obtain ⟨g1, -, -, g4, g5, g6, -⟩ := id g
    simp only [e127_0, e127_1, e127_2, e127_5, e127_6, e127_7, e127_10, e127_13, e127_14, e127_15, e127_16, e127_19, e127_20, e127_23, e127_26, e127_28, e127_29, e127_30, e127_33, e127_34, e127_35, e127_36, e127_37, e127_38, e127_40, e127_41, e127_43, e127_45, e127_46, e127_49, e127_52, e127_53, e127_56, e127_58, e127_61, e127_64, e127_67, e127_68, e127_69, e127_72, e127_74, e127_75, e127_76, e127_77, e127_78, e127_81, e127_83, e127_84, e127_85, e127_88, e127_89, e127_92, e127_94, e127_95, e127_98, e127_99, e127_100, e127_103, e127_106, e127_107, e127_110, e127_111, e127_113, e127_116, e127_117, e127_120, e127_123, e127_124, e127_127, e127_128, e127_131, e127_132, e127_135, e127_136, e127_138, e127_139, e127_142, e127_143, e127_144, e127_145, e127_146, e127_149, e127_150, e127_151, e127_152, e127_153, e127_156, e127_157, e127_159, e127_162, e127_163, e127_166, e127_167, e127_168, true_or, or_true, true_and, and_true, Option.toList, List.cons_append, List.nil_append, if_true, if_false, reduceIte, sk50, c117 g4.1 g1.1, hx, bI_0, Bool.not_false, Bool.true_eq_false]
    exact s0
