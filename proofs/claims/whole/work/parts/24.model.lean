/-! THE MODEL'S SMALL METHODS -/
def mdV (σ : ab_St) (t : gT) : Prop := σ.1 50 5 = nI (tP t) ∧ σ.1 50 8 = nI (tS t) ∧ ∀ s, s < tS t → σ.1 53 s = nI (tw t s) ∧ σ.1 54 s = nI (tz t s) ∧ σ.1 55 s = nI (tv t s) ∧ σ.1 56 s = ta t s
theorem i64_nI {n : Nat} (h : n < 2 ^ 31) : (nI n).toInt64 = lN n := nI_l h
theorem inL {x : Int32} {n : Nat} (hn : n < 2 ^ 30) : decide ((0 : Int64) ≤ x.toInt64 ∧ x.toInt64 ≤ (nI n - 1).toInt64) = inR x n := by
  unfold inR
  have h1 : (nI n - 1).toInt = (n : Int) - 1 := pk_sub_toInt (a := n) (b := 1) (by omega) (by decide)
  congr 1
  apply propext
  rw [Int64.le_iff_toInt_le, Int64.le_iff_toInt_le, Int32.toInt_toInt64, Int32.toInt_toInt64, h1, Int64.toInt_zero]
  omega
/-- noOne, noSaying -/
theorem c117 {d P : Nat} {x : Int32} {σ : ab_St} {Q : Option Value → ab_St → Prop} (v : σ.1 50 5 = nI P) (hP : P ≤ 6) : Ev (d + 1) 117 0 [some (.ref 50), some (.int x)] [] σ Q = Q (some (.int (bI (!inR x P)))) σ := by
  simp only [e117_0, e117_1, e117_2, e117_3, e117_4, e117_7, e117_8, e117_9, e117_10, e117_13, e117_16, e117_17, e117_20, e117_21, true_or, or_true, true_and, and_true, Option.toList, List.cons_append, List.nil_append, if_true, if_false, reduceIte, sk50, v, c101, inL (x := x) (n := P) (by omega), bI_0]
  cases inR x P <;> simp [bI]
theorem c119 {d P : Nat} {x : Int32} {σ : ab_St} {Q : Option Value → ab_St → Prop} (v : σ.1 50 8 = nI P) (hP : P ≤ 8) : Ev (d + 1) 119 0 [some (.ref 50), some (.int x)] [] σ Q = Q (some (.int (bI (!inR x P)))) σ := by
  simp only [e119_0, e119_1, e119_2, e119_3, e119_4, e119_7, e119_8, e119_9, e119_10, e119_13, e119_16, e119_17, e119_20, e119_21, true_or, or_true, true_and, and_true, Option.toList, List.cons_append, List.nil_append, if_true, if_false, reduceIte, sk50, v, c101, inL (x := x) (n := P) (by omega), bI_0]
  cases inR x P <;> simp [bI]
/-- many -/
theorem c129 {d s : Nat} {σ : ab_St} {Q : Option Value → ab_St → Prop} (hs : s < 64) : Ev d 129 0 [some (.int (nI s)), none, none] [] σ Q = Q (some (.int (nI (cnt s 6)))) σ := by
  simp only [e129_0, e129_1, e129_2, e129_3]
  refine (ev_for (fun i (a : Nat) => Ev d 129 4 [some (.int (nI s)), some (.int (nI a)), some (.int (nI i))] [] σ Q) (smS s (fun _ => 1)) 0 8 ?_).trans ?_
  · intro i hi
    generalize itn (smS s (fun _ => 1)) i 0 = a
    rw [e129_4]
    have h6 : ¬ (8 : Int32) ≤ nI i := nI_ge (a := i) (b := 8) hi (by decide)
    simp only [e129_0, e129_1, e129_2, e129_3, e129_5, e129_7, e129_10, e129_11, e129_12, e129_13, e129_14, e129_15, e129_16, e129_17, e129_18, e129_21, e129_24, e129_25, true_or, or_true, true_and, and_true, Option.toList, List.cons_append, List.nil_append, if_true, if_false, reduceIte, h6, nI_has (s := s) (k := i) (by omega) (by omega), nI_1]
    unfold smS
    cases s.testBit i
    · simp only [bI, Bool.false_eq_true, true_or, or_true, true_and, and_true, Option.toList, List.cons_append, List.nil_append, if_true, if_false, reduceIte]
      rw [show nI a + (0 : Int32) = nI a from nI_add a 0]
    · simp only [bI, true_or, or_true, true_and, and_true, Option.toList, List.cons_append, List.nil_append, if_true, if_false, reduceIte]
      rw [show nI a + (1 : Int32) = nI (a + 1) from nI_add a 1]
  · rw [e129_4]
    simp only [e129_0, e129_1, e129_2, e129_3, e129_5, e129_7, e129_10, e129_11, e129_12, e129_13, e129_14, e129_15, e129_16, e129_17, e129_18, e129_21, e129_24, e129_25, true_or, or_true, true_and, and_true, Option.toList, List.cons_append, List.nil_append, if_true, if_false, reduceIte]
    rw [if_pos (show (8 : Int32) ≤ nI 8 from nI_le (Nat.le_refl 8) (by decide))]
    have : itn (smS s (fun _ => 1)) 8 0 = cnt s 6 := sm_stop (P := 6) (N := 8) hs (by decide)
    rw [this]
/-- the fewest words -/
def fwS (th : Nat) (f : Nat → Nat) (i a : Nat) : Nat := if th.testBit i = true then (if a ≤ f i then a else f i) else a
theorem fw_inv (th : Nat) (f : Nat → Nat) (M n : Nat) : itn (fwS th f) n M ≤ M ∧ (∀ p, p < n → th.testBit p = true → itn (fwS th f) n M ≤ f p) ∧ (itn (fwS th f) n M = M ∨ ∃ p, p < n ∧ th.testBit p = true ∧ f p = itn (fwS th f) n M) := by
  induction n with
  | zero => exact ⟨Nat.le_refl _, fun p hp => by omega, Or.inl rfl⟩
  | succ n ih =>
    obtain ⟨h1, h2, h3⟩ := ih
    show fwS th f n (itn (fwS th f) n M) ≤ M ∧ (∀ p, p < n + 1 → th.testBit p = true → fwS th f n (itn (fwS th f) n M) ≤ f p) ∧ (fwS th f n (itn (fwS th f) n M) = M ∨ ∃ p, p < n + 1 ∧ th.testBit p = true ∧ f p = fwS th f n (itn (fwS th f) n M))
    generalize itn (fwS th f) n M = a at h1 h2 h3
    unfold fwS
    by_cases hb : th.testBit n = true
    · rw [if_pos hb]
      by_cases hle : a ≤ f n
      · rw [if_pos hle]
        refine ⟨h1, fun p hp hpb => ?_, ?_⟩
        · rcases Nat.lt_succ_iff_lt_or_eq.mp hp with q | rfl
          · exact h2 p q hpb
          · exact hle
        · rcases h3 with q | ⟨p, q1, q2⟩
          · exact Or.inl q
          · exact Or.inr ⟨p, by omega, q2⟩
      · rw [if_neg hle]
        refine ⟨by omega, fun p hp hpb => ?_, Or.inr ⟨n, by omega, hb, rfl⟩⟩
        rcases Nat.lt_succ_iff_lt_or_eq.mp hp with q | rfl
        · have := h2 p q hpb; omega
        · exact Nat.le_refl _
    · rw [if_neg hb]
      refine ⟨h1, fun p hp hpb => ?_, ?_⟩
      · rcases Nat.lt_succ_iff_lt_or_eq.mp hp with q | rfl
        · exact h2 p q hpb
        · exact absurd hpb hb
      · rcases h3 with q | ⟨p, q1, q2⟩
        · exact Or.inl q
        · exact Or.inr ⟨p, by omega, q2⟩
theorem fw_lst {th P M : Nat} {f : Nat → Nat} (hP : P ≤ 6) (hth : th < 2 ^ P) (hf : ∀ p, th.testBit p = true → f p < M) : sof P (fun p => th.testBit p && (f p == itn (fwS th f) P M)) = lst th f := by
  obtain ⟨h1, h2, h3⟩ := fw_inv th f M P
  have h64 : th < 64 := Nat.lt_of_lt_of_le hth (Nat.pow_le_pow_right (by decide) hP : 2 ^ P ≤ 2 ^ 6)
  apply bits_ext
  intro i
  rw [Bool.eq_iff_iff, lst_bit h64, sof_bit]
  simp only [Bool.and_eq_true, decide_eq_true_eq, beq_iff_eq]
  constructor
  · rintro ⟨q1, q2, q3⟩
    exact ⟨q2, fun q hq => by rw [q3]; exact h2 q (bit_lt hth hq) hq⟩
  · rintro ⟨q1, q2⟩
    refine ⟨bit_lt hth q1, q1, ?_⟩
    have e1 := h2 i (bit_lt hth q1) q1
    rcases h3 with e | ⟨p, p1, p2, p3⟩
    · have := hf i q1; omega
    · have := q2 p p2; omega
def mlV (σ : ab_St) (P : Nat) (f : Nat → Nat) (th : Nat) : Prop := σ.1 50 5 = nI P ∧ (∀ p, th.testBit p = true → σ.1 65 p = nI (f p)) ∧ σ.1 50 7 = nI th ∧ th < 2 ^ P ∧ P ≤ 6 ∧ (∀ p, th.testBit p = true → f p < 99999)
set_option maxHeartbeats 2000000 in
/-- leastSet -/
theorem c114 {d th P : Nat} {f : Nat → Nat} {σ : ab_St} {Q : Option Value → ab_St → Prop} (hv : mlV σ P f th) : Ev (d + 1) 114 0 [some (.ref 50), none, none, none] [] σ Q = Q (some (.int (nI (lst th f)))) σ := by
  obtain ⟨v0, v1, v2, v3, v5, v4⟩ := hv
  have h64 : th < 64 := Nat.lt_of_lt_of_le v3 (Nat.pow_le_pow_right (by decide) v5 : 2 ^ P ≤ 2 ^ 6)
  simp only [e114_0, e114_2, e114_3, e114_4]
  refine (ev_for (fun i (a : Nat) => Ev (d + 1) 114 5 [some (.ref 50), some (.int (nI a)), some (.int (nI i)), none] [] σ Q) (fwS th f) 99999 P ?_).trans ?_
  · intro i hi
    have hB := (fw_inv th f 99999 i).1
    generalize itn (fwS th f) i 99999 = a at hB
    rw [e114_5]
    have h6 : ¬ nI P ≤ nI i := nI_ge hi (by omega)
    unfold fwS
    cases hb : th.testBit i
    · simp only [e114_0, e114_2, e114_3, e114_4, e114_6, e114_7, e114_10, e114_13, e114_14, e114_17, e114_18, e114_21, e114_24, e114_25, e114_28, e114_29, e114_30, e114_31, e114_34, e114_35, e114_38, e114_39, e114_40, e114_43, e114_44, e114_45, e114_48, e114_51, e114_52, e114_53, e114_54, e114_56, e114_57, e114_60, e114_63, e114_64, e114_65, e114_68, e114_69, e114_72, e114_75, e114_76, e114_79, e114_80, e114_81, e114_82, e114_85, e114_86, e114_87, e114_88, e114_91, e114_92, e114_93, e114_94, e114_97, e114_100, e114_101, true_or, or_true, true_and, and_true, Option.toList, List.cons_append, List.nil_append, if_true, if_false, reduceIte, sk50, v0, v2, h6, c113 (s := th) (k := i) (by omega) (by omega), hb, bI_0, nI_1, Bool.false_eq_true]
    · have hl := v4 i hb
      simp only [e114_0, e114_2, e114_3, e114_4, e114_6, e114_7, e114_10, e114_13, e114_14, e114_17, e114_18, e114_21, e114_24, e114_25, e114_28, e114_29, e114_30, e114_31, e114_34, e114_35, e114_38, e114_39, e114_40, e114_43, e114_44, e114_45, e114_48, e114_51, e114_52, e114_53, e114_54, e114_56, e114_57, e114_60, e114_63, e114_64, e114_65, e114_68, e114_69, e114_72, e114_75, e114_76, e114_79, e114_80, e114_81, e114_82, e114_85, e114_86, e114_87, e114_88, e114_91, e114_92, e114_93, e114_94, e114_97, e114_100, e114_101, true_or, or_true, true_and, and_true, Option.toList, List.cons_append, List.nil_append, if_true, if_false, reduceIte, sk50, sk65, sn65, sr50_28, v0, v2, h6, c113 (s := th) (k := i) (by omega) (by omega), hb, bI_0, nI_1, in_eq (j := i) (n := 6) (by omega) (by decide), nI_clamp (n := i) (by omega), v1 i hb, nI_leI (a := a) (b := f i) (by omega) (by omega), Bool.true_eq_false]
      split <;> rfl
  · have hB := (fw_inv th f 99999 P).1
    have hend := fw_lst v5 v3 v4
    generalize itn (fwS th f) P 99999 = fm at hB hend
    rw [e114_5]
    simp only [e114_0, e114_2, e114_3, e114_4, e114_6, e114_7, e114_10, e114_13, e114_14, e114_17, e114_18, e114_21, e114_24, e114_25, e114_28, e114_29, e114_30, e114_31, e114_34, e114_35, e114_38, e114_39, e114_40, e114_43, e114_44, e114_45, e114_48, e114_51, e114_52, e114_53, e114_54, e114_56, e114_57, e114_60, e114_63, e114_64, e114_65, e114_68, e114_69, e114_72, e114_75, e114_76, e114_79, e114_80, e114_81, e114_82, e114_85, e114_86, e114_87, e114_88, e114_91, e114_92, e114_93, e114_94, e114_97, e114_100, e114_101, true_or, or_true, true_and, and_true, Option.toList, List.cons_append, List.nil_append, if_true, if_false, reduceIte, sk50, v0]
    rw [if_pos (nI_le (Nat.le_refl P) (by omega))]
    refine (ev_for (fun i (a : Nat) => Ev (d + 1) 114 55 [some (.ref 50), some (.int (nI fm)), some (.int (nI a)), some (.int (nI i))] [] σ Q) (fun i a => if (th.testBit i && (f i == fm)) = true then a ||| 2 ^ i else a) 0 P ?_).trans ?_
    · intro i hi
      have hs : itn (fun i a => if (th.testBit i && (f i == fm)) = true then a ||| 2 ^ i else a) i 0 < 2 ^ i := sof_lt i (fun p => th.testBit p && (f p == fm))
      have hs8 : itn (fun i a => if (th.testBit i && (f i == fm)) = true then a ||| 2 ^ i else a) i 0 < 2 ^ 6 := Nat.lt_of_lt_of_le hs (Nat.pow_le_pow_right (by decide) (by omega))
      generalize itn (fun i a => if (th.testBit i && (f i == fm)) = true then a ||| 2 ^ i else a) i 0 = a at hs8
      rw [e114_55]
      have h6 : ¬ nI P ≤ nI i := nI_ge hi (by omega)
      have hz : nI a ||| (0 : Int32) = nI a := by rw [show (0 : Int32) = nI 0 from rfl, nI_or (by omega) (by decide), Nat.or_zero]
      cases hb : th.testBit i
      · simp only [e114_0, e114_2, e114_3, e114_4, e114_6, e114_7, e114_10, e114_13, e114_14, e114_17, e114_18, e114_21, e114_24, e114_25, e114_28, e114_29, e114_30, e114_31, e114_34, e114_35, e114_38, e114_39, e114_40, e114_43, e114_44, e114_45, e114_48, e114_51, e114_52, e114_53, e114_54, e114_56, e114_57, e114_60, e114_63, e114_64, e114_65, e114_68, e114_69, e114_72, e114_75, e114_76, e114_79, e114_80, e114_81, e114_82, e114_85, e114_86, e114_87, e114_88, e114_91, e114_92, e114_93, e114_94, e114_97, e114_100, e114_101, true_or, or_true, true_and, and_true, Option.toList, List.cons_append, List.nil_append, if_true, if_false, reduceIte, sk50, v0, v2, h6, c113 (s := th) (k := i) (by omega) (by omega), hb, bI_0, nI_1, Bool.false_eq_true, Bool.false_and, hz]
      · have hl := v4 i hb
        simp only [e114_0, e114_2, e114_3, e114_4, e114_6, e114_7, e114_10, e114_13, e114_14, e114_17, e114_18, e114_21, e114_24, e114_25, e114_28, e114_29, e114_30, e114_31, e114_34, e114_35, e114_38, e114_39, e114_40, e114_43, e114_44, e114_45, e114_48, e114_51, e114_52, e114_53, e114_54, e114_56, e114_57, e114_60, e114_63, e114_64, e114_65, e114_68, e114_69, e114_72, e114_75, e114_76, e114_79, e114_80, e114_81, e114_82, e114_85, e114_86, e114_87, e114_88, e114_91, e114_92, e114_93, e114_94, e114_97, e114_100, e114_101, true_or, or_true, true_and, and_true, Option.toList, List.cons_append, List.nil_append, if_true, if_false, reduceIte, sk50, sk65, sn65, sr50_28, v0, v2, h6, c113 (s := th) (k := i) (by omega) (by omega), hb, bI_0, nI_1, in_eq (j := i) (n := 6) (by omega) (by decide), nI_clamp (n := i) (by omega), v1 i hb, nI_eq (a := f i) (b := fm) (by omega) (by omega), Bool.true_eq_false, Bool.true_and, beq_iff_eq, nI_set (a := a) (k := i) (by omega) (by omega), hz]
        split <;> rfl
    · rw [e114_55]
      simp only [e114_0, e114_2, e114_3, e114_4, e114_6, e114_7, e114_10, e114_13, e114_14, e114_17, e114_18, e114_21, e114_24, e114_25, e114_28, e114_29, e114_30, e114_31, e114_34, e114_35, e114_38, e114_39, e114_40, e114_43, e114_44, e114_45, e114_48, e114_51, e114_52, e114_53, e114_54, e114_56, e114_57, e114_60, e114_63, e114_64, e114_65, e114_68, e114_69, e114_72, e114_75, e114_76, e114_79, e114_80, e114_81, e114_82, e114_85, e114_86, e114_87, e114_88, e114_91, e114_92, e114_93, e114_94, e114_97, e114_100, e114_101, true_or, or_true, true_and, and_true, Option.toList, List.cons_append, List.nil_append, if_true, if_false, reduceIte, sk50, v0]
      rw [if_pos (nI_le (Nat.le_refl P) (by omega))]
      have : itn (fun i a => if (th.testBit i && (f i == fm)) = true then a ||| 2 ^ i else a) P 0 = lst th f := hend
      rw [this]
set_option maxHeartbeats 2000000 in
/-- worthOf -/
theorem c115 {d st : Nat} {p : Int32} {t : gT} {σ : ab_St} {Q : Option Value → ab_St → Prop} (ht : tok t) (hv : mdV σ t) (hst : st < 2 ^ 31) : Ev (d + 1) 115 0 [some (.ref 50), some (.int (nI st)), some (.int p), none, none] [] σ Q = Q (some (.int (nI (itn (fun i a => if st.testBit i = true ∧ (p = -9 ∨ nI (tw t i) = p) then a + tv t i else a) (tS t) 0)))) σ := by
  obtain ⟨t1, t2, t3⟩ := ht
  obtain ⟨v1, v2, v3⟩ := hv
  simp only [e115_0, e115_1, e115_2, e115_3]
  refine (ev_for (fun i (a : Nat) => Ev (d + 1) 115 5 [some (.ref 50), some (.int (nI st)), some (.int p), some (.int (nI a)), some (.int (nI i))] [] σ Q) (fun i a => if st.testBit i = true ∧ (p = -9 ∨ nI (tw t i) = p) then a + tv t i else a) 0 (tS t) ?_).trans ?_
  · intro i hi
    generalize itn (fun i a => if st.testBit i = true ∧ (p = -9 ∨ nI (tw t i) = p) then a + tv t i else a) i 0 = a
    rw [e115_5]
    have h6 : ¬ nI (tS t) ≤ nI i := nI_ge hi (by omega)
    have hz : nI a + (0 : Int32) = nI a := nI_add a 0
    cases hb : st.testBit i
    · simp only [e115_0, e115_1, e115_2, e115_3, e115_7, e115_8, e115_11, e115_14, e115_15, e115_16, e115_18, e115_21, e115_24, e115_25, e115_27, e115_30, e115_31, e115_34, e115_36, e115_37, e115_38, e115_41, e115_42, e115_45, e115_47, e115_48, e115_51, e115_52, e115_53, e115_54, e115_57, e115_60, e115_61, true_or, or_true, true_and, and_true, Option.toList, List.cons_append, List.nil_append, if_true, if_false, reduceIte, sk50, v2, h6, c113 (s := st) (k := i) hst (by omega), hb, bI_0, nI_1, Bool.false_eq_true, hz, false_and]
    · simp only [e115_0, e115_1, e115_2, e115_3, e115_7, e115_8, e115_11, e115_14, e115_15, e115_16, e115_18, e115_21, e115_24, e115_25, e115_27, e115_30, e115_31, e115_34, e115_36, e115_37, e115_38, e115_41, e115_42, e115_45, e115_47, e115_48, e115_51, e115_52, e115_53, e115_54, e115_57, e115_60, e115_61, true_or, or_true, true_and, and_true, Option.toList, List.cons_append, List.nil_append, if_true, if_false, reduceIte, sk50, sr50_9, sr50_11, sk53, sn53, sk55, sn55, v2, h6, c113 (s := st) (k := i) hst (by omega), hb, bI_0, nI_1, in_eq (j := i) (n := 8) (by omega) (by decide), nI_clamp (n := i) (by omega), (v3 i hi).1, (v3 i hi).2.2.1, nI_add, Bool.true_eq_false, hz]
      by_cases e1 : p = -9
      · simp only [e1, true_or, or_true, true_and, and_true, Option.toList, List.cons_append, List.nil_append, if_true, if_false, reduceIte]
      · by_cases e2 : nI (tw t i) = p
        · simp only [e1, e2, true_or, or_true, true_and, and_true, Option.toList, List.cons_append, List.nil_append, if_true, if_false, reduceIte]
        · simp only [e1, e2, true_or, or_true, true_and, and_true, Option.toList, List.cons_append, List.nil_append, if_true, if_false, reduceIte, or_self]
  · rw [e115_5]
    simp only [e115_0, e115_1, e115_2, e115_3, e115_7, e115_8, e115_11, e115_14, e115_15, e115_16, e115_18, e115_21, e115_24, e115_25, e115_27, e115_30, e115_31, e115_34, e115_36, e115_37, e115_38, e115_41, e115_42, e115_45, e115_47, e115_48, e115_51, e115_52, e115_53, e115_54, e115_57, e115_60, e115_61, true_or, or_true, true_and, and_true, Option.toList, List.cons_append, List.nil_append, if_true, if_false, reduceIte, sk50, v2]
    rw [if_pos (nI_le (Nat.le_refl _) (by omega))]
set_option maxHeartbeats 2000000 in
/-- canSay -/
theorem c122 {d th sd s : Nat} {la : Int32} {f : Nat → Nat} {t : gT} {σ : ab_St} {Q : Option Value → ab_St → Prop} (ht : tok t) (tvv : mdV σ t) (hv : mlV σ (tP t) f th) (hsd : σ.1 50 29 = nI sd) (hla : σ.1 50 30 = la) (hsd8 : sd < 256) (hs : s < tS t) : Ev (d + 2) 122 0 [some (.ref 50), some (.int (nI s))] [] σ Q = Q (some (.int (bI (alw t f th sd la s)))) σ := by
  have v2 := hv.2.2.1
  have h64 : th < 64 := Nat.lt_of_lt_of_le hv.2.2.2.1 (Nat.pow_le_pow_right (by decide) hv.2.2.2.2.1 : 2 ^ tP t ≤ 2 ^ 6)
  obtain ⟨t1, t2, t3⟩ := ht
  obtain ⟨w1, w2, w3⟩ := tvv
  have hw := (t3 s hs).1
  have hl := lst_lt th f
  simp only [e122_0, e122_1, e122_4, e122_5, e122_8, e122_11, e122_12, e122_15, e122_16, e122_19, e122_20, e122_21, e122_24, e122_27, e122_28, e122_29, e122_30, e122_33, e122_34, e122_35, e122_37, e122_40, e122_41, e122_44, e122_45, e122_48, e122_49, e122_50, e122_53, e122_56, e122_57, e122_60, e122_61, e122_64, e122_65, e122_66, e122_69, e122_70, e122_73, e122_74, true_or, or_true, true_and, and_true, Option.toList, List.cons_append, List.nil_append, if_true, if_false, reduceIte, sk50, sr50_9, sr50_12, sk53, sn53, sk56, sn56, in_eq (j := s) (n := 8) (by omega) (by decide), nI_clamp (n := s) (by omega), (w3 s hs).1, (w3 s hs).2.2.2, hsd, hla, v2, c113 (s := sd) (k := s) (by omega) (by omega), c113 (s := th) (k := tw t s) (by omega) (by omega), c114 hv, c113 (s := lst th f) (k := tw t s) (by omega) (by omega), bI_0, bI_1, b_or]
  unfold alw
  cases sd.testBit s
  · cases th.testBit (tw t s)
    · simp [bI]
    · by_cases e : ta t s = -9
      · simp [e]
      · by_cases e2 : ta t s = la
        · have e3 : ¬ la = -9 := e2 ▸ e
          simp [e2, e3, bI]
        · simp [e, e2, bI, fun z : la = ta t s => e2 z.symm]
          intro z
          exact absurd z.symm e2
  · simp [bI]
