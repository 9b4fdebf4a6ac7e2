/-! STATES -/
theorem in_eq {j n : Nat} (h : j < n) (hn : n < 2 ^ 31) : ab_in (nI j) n = True := eq_true (in_nI h hn)
/-- a State's cell; what of it is read by those that are there -/
def stO (c : Nat) : Prop := ab_k c = 4 ∧ ab_k (ab_r c 0) = 100 ∧ ab_n (ab_r c 0) = 6
def stV (σ : ab_St) (c : Nat) (f : Nat → Nat) (th : Nat) : Prop := (∀ p, th.testBit p = true → σ.1 (ab_r c 0) p = nI (f p)) ∧ σ.1 c 1 = nI th ∧ th < 64 ∧ (∀ p, th.testBit p = true → f p < 100000)
/-- as long as nobody was met, nothing has changed -/
theorem lsS_z (M th : Nat) (f : Nat → Nat) (n : Nat) : (itn (lsS M th f) n (M, 0)).2 = 0 → itn (lsS M th f) n (M, 0) = (M, 0) := by
  induction n with
  | zero => intro _; rfl
  | succ n ih =>
    show (lsS M th f n (itn (lsS M th f) n (M, 0))).2 = 0 → lsS M th f n (itn (lsS M th f) n (M, 0)) = (M, 0)
    generalize itn (lsS M th f) n (M, 0) = a at ih
    obtain ⟨x, s⟩ := a
    simp only at ih
    have hne : ∀ t : Nat, ¬ t ||| 2 ^ n = 0 := by
      intro t h0
      have := bit_set t n n
      rw [h0, Nat.zero_testBit, decide_eq_true rfl, Bool.or_true] at this
      exact Bool.false_ne_true this
    unfold lsS
    simp only
    intro h
    by_cases hb : th.testBit n = true
    · rw [if_pos hb] at h ⊢
      by_cases e1 : f n ≤ x
      · rw [if_pos e1] at h ⊢
        by_cases e2 : x ≤ f n
        · rw [if_pos e2] at h
          exact absurd h (hne s)
        · rw [if_neg e2] at h
          exact absurd h (hne 0)
      · rw [if_neg e1] at h ⊢
        exact ih h
    · rw [if_neg hb] at h ⊢
      exact ih h
set_option maxHeartbeats 1000000 in
/-- State.least -/
theorem c38 {d c th : Nat} {f : Nat → Nat} {σ : ab_St} {Q : Option Value → ab_St → Prop} (ho : stO c) (hv : stV σ c f th) : Ev (d + 1) 38 0 [some (.ref c), none, none, none] [] σ Q = Q (some (.int (nI (lst th f)))) σ := by
  obtain ⟨k1, k2, k3⟩ := ho
  obtain ⟨v1, v2, v3, v4⟩ := hv
  simp only [e38_0, e38_1, e38_2, e38_3, e38_4, e38_5]
  refine (ev_for (fun i (a : Nat × Nat) => Ev (d + 1) 38 6 [some (.ref c), some (.int (nI (if a.2 = 0 then 0 else a.1))), some (.int (nI a.2)), some (.int (nI i))] [] σ Q) (lsS 2147483647 th f) (2147483647, 0) 6 ?_).trans ?_
  · intro i hi
    have inv := lsS_inv 2147483647 th f (fun p hp => by have := v4 p hp; omega) i
    have hz := lsS_z 2147483647 th f i
    generalize itn (lsS 2147483647 th f) i (2147483647, 0) = a at inv hz
    obtain ⟨x, s⟩ := a
    obtain ⟨i1, i2, -, -⟩ := inv
    simp only at i1 i2 hz
    have hs : s < 2 ^ 6 := Nat.lt_of_lt_of_le i2 (Nat.pow_le_pow_right (by decide) (by omega))
    have hne : ∀ t : Nat, ¬ t ||| 2 ^ i = 0 := by
      intro t h0
      have := bit_set t i i
      rw [h0, Nat.zero_testBit, decide_eq_true rfl, Bool.or_true] at this
      exact Bool.false_ne_true this
    simp only
    rw [e38_6]
    have h6 : ¬ (6 : Int32) ≤ nI i := nI_ge (a := i) (b := 6) hi (by decide)
    unfold lsS
    cases hb : th.testBit i
    · simp only [e38_0, e38_1, e38_2, e38_3, e38_4, e38_5, e38_7, e38_9, e38_12, e38_13, e38_16, e38_17, e38_20, e38_23, e38_24, e38_27, e38_28, e38_31, e38_32, e38_33, e38_34, e38_37, e38_40, e38_41, e38_44, e38_45, e38_46, e38_47, e38_50, e38_51, e38_52, e38_53, e38_56, e38_57, e38_58, e38_59, e38_60, e38_61, e38_62, e38_63, e38_64, e38_65, e38_68, e38_71, e38_72, true_or, or_true, true_and, and_true, Option.toList, List.cons_append, List.nil_append, if_true, if_false, reduceIte, k1, v2, h6, c32 (s := th) (k := i) (by omega) (by omega), hb, bI_0, nI_1, Bool.false_eq_true]
    · have hw := v1 i hb
      have hl := v4 i hb
      by_cases hs0 : s = 0
      · have hx : x = 2147483647 := congrArg Prod.fst (hz hs0)
        subst hs0
        subst hx
        have h00 : (nI 0 = 0) = True := eq_true rfl
        have e1 : f i ≤ 2147483647 := by omega
        have e2 : ¬ 2147483647 ≤ f i := by omega
        have e3 : (0 ≤ f i) = True := eq_true (Nat.zero_le _)
        simp only [e38_0, e38_1, e38_2, e38_3, e38_4, e38_5, e38_7, e38_9, e38_12, e38_13, e38_16, e38_17, e38_20, e38_23, e38_24, e38_27, e38_28, e38_31, e38_32, e38_33, e38_34, e38_37, e38_40, e38_41, e38_44, e38_45, e38_46, e38_47, e38_50, e38_51, e38_52, e38_53, e38_56, e38_57, e38_58, e38_59, e38_60, e38_61, e38_62, e38_63, e38_64, e38_65, e38_68, e38_71, e38_72, true_or, or_true, true_and, and_true, Option.toList, List.cons_append, List.nil_append, if_true, if_false, reduceIte, k1, k2, k3, v2, h6, c32 (s := th) (k := i) (by omega) (by omega), hb, bI_0, nI_1, in_eq (j := i) (n := 6) hi (by decide), nI_clamp (n := i) (by omega), hw, h00, nI_leI (a := 0) (b := f i) (by omega) (by omega), e3, nI_set (a := 0) (k := i) (by omega) (by omega), Bool.true_eq_false, if_pos e1, if_neg e2, if_neg (hne 0)]
      · have hsn : ¬ nI s = 0 := fun h => hs0 (nI_inj (a := s) (b := 0) (by omega) (by omega) h)
        simp only [e38_0, e38_1, e38_2, e38_3, e38_4, e38_5, e38_7, e38_9, e38_12, e38_13, e38_16, e38_17, e38_20, e38_23, e38_24, e38_27, e38_28, e38_31, e38_32, e38_33, e38_34, e38_37, e38_40, e38_41, e38_44, e38_45, e38_46, e38_47, e38_50, e38_51, e38_52, e38_53, e38_56, e38_57, e38_58, e38_59, e38_60, e38_61, e38_62, e38_63, e38_64, e38_65, e38_68, e38_71, e38_72, true_or, or_true, true_and, and_true, Option.toList, List.cons_append, List.nil_append, if_true, if_false, reduceIte, k1, k2, k3, v2, h6, c32 (s := th) (k := i) (by omega) (by omega), hb, bI_0, nI_1, in_eq (j := i) (n := 6) hi (by decide), nI_clamp (n := i) (by omega), hw, if_neg hs0, if_neg hsn, nI_leI (a := f i) (b := x) (by omega) (by omega), nI_leI (a := x) (b := f i) (by omega) (by omega), nI_set (a := s) (k := i) (by omega) (by omega), Bool.true_eq_false]
        by_cases e1 : f i ≤ x
        · by_cases e2 : x ≤ f i
          · have e3 : f i = x := Nat.le_antisymm e1 e2
            simp only [if_pos e1, if_pos e2, if_neg (hne s)]
            rw [e3]
          · simp only [if_pos e1, if_neg e2, if_neg (hne 0)]
            rw [show (0 : Int32) = nI 0 from rfl, nI_set (a := 0) (k := i) (by omega) (by omega)]
        · simp only [if_neg e1, if_neg hs0]
  · rw [e38_6]
    simp only [e38_0, e38_1, e38_2, e38_3, e38_4, e38_5, e38_7, e38_9, e38_12, e38_13, e38_16, e38_17, e38_20, e38_23, e38_24, e38_27, e38_28, e38_31, e38_32, e38_33, e38_34, e38_37, e38_40, e38_41, e38_44, e38_45, e38_46, e38_47, e38_50, e38_51, e38_52, e38_53, e38_56, e38_57, e38_58, e38_59, e38_60, e38_61, e38_62, e38_63, e38_64, e38_65, e38_68, e38_71, e38_72, true_or, or_true, true_and, and_true, Option.toList, List.cons_append, List.nil_append, if_true, if_false, reduceIte]
    rw [if_pos (show (6 : Int32) ≤ nI 6 from nI_le (Nat.le_refl 6) (by decide)), lsS_end v3 (fun p hp => by have := v4 p hp; omega)]
/-- sums and tops over those of a set -/
def smS (th : Nat) (f : Nat → Nat) (i a : Nat) : Nat := if th.testBit i = true then a + f i else a
def sm (th : Nat) (f : Nat → Nat) (n : Nat) : Nat := itn (smS th f) n 0
def mxS (th : Nat) (f : Nat → Nat) (i a : Nat) : Nat := if th.testBit i = true then (if a < f i then f i else a) else a
def mx (th : Nat) (f : Nat → Nat) (n : Nat) : Nat := itn (mxS th f) n 0
theorem sm_le (th : Nat) (f : Nat → Nat) (B : Nat) (n : Nat) (h : ∀ p, p < n → th.testBit p = true → f p ≤ B) : sm th f n ≤ n * B := by
  induction n with
  | zero => exact Nat.zero_le _
  | succ n ih =>
    have ih := ih (fun p hp => h p (by omega))
    show smS th f n (sm th f n) ≤ (n + 1) * B
    unfold smS
    rw [Nat.add_mul, Nat.one_mul]
    split
    next hb => have := h n (by omega) hb; omega
    next => omega
theorem mx_le (th : Nat) (f : Nat → Nat) (B : Nat) (n : Nat) (h : ∀ p, p < n → th.testBit p = true → f p ≤ B) : mx th f n ≤ B := by
  induction n with
  | zero => exact Nat.zero_le B
  | succ n ih =>
    have ih := ih (fun p hp => h p (by omega))
    show mxS th f n (mx th f n) ≤ B
    unfold mxS
    split
    next hb =>
      split
      · exact h n (by omega) hb
      · exact ih
    next => exact ih
theorem itn_stop {α : Type} (step : Nat → α → α) (a : α) (P : Nat) : ∀ N, P ≤ N → (∀ i b, P ≤ i → step i b = b) → itn step N a = itn step P a := by
  intro N
  induction N with
  | zero => intro h _; rw [Nat.le_zero.mp h]
  | succ N ih =>
    intro h hs
    by_cases e : P = N + 1
    · rw [e]
    · show step N (itn step N a) = _
      rw [hs N _ (by omega), ih (by omega) hs]
theorem sm_stop {th P N : Nat} {f : Nat → Nat} (hth : th < 2 ^ P) (h : P ≤ N) : sm th f N = sm th f P := itn_stop _ _ P N h (fun i b hi => by
  unfold smS
  rw [if_neg (fun z => by have := bit_lt hth z; omega)])
theorem mx_stop {th P N : Nat} {f : Nat → Nat} (hth : th < 2 ^ P) (h : P ≤ N) : mx th f N = mx th f P := itn_stop _ _ P N h (fun i b hi => by
  unfold mxS
  rw [if_neg (fun z => by have := bit_lt hth z; omega)])
set_option maxHeartbeats 1000000 in
/-- State.wordsThere -/
theorem c40 {d c th : Nat} {f : Nat → Nat} {σ : ab_St} {Q : Option Value → ab_St → Prop} (ho : stO c) (hv : stV σ c f th) : Ev (d + 1) 40 0 [some (.ref c), none, none] [] σ Q = Q (some (.int (nI (sm th f 6)))) σ := by
  obtain ⟨k1, k2, k3⟩ := ho
  obtain ⟨v1, v2, v3, v4⟩ := hv
  simp only [e40_0, e40_1, e40_2, e40_3]
  refine (ev_for (fun i (a : Nat) => Ev (d + 1) 40 4 [some (.ref c), some (.int (nI a)), some (.int (nI i))] [] σ Q) (smS th f) 0 6 ?_).trans ?_
  · intro i hi
    generalize itn (smS th f) i 0 = a
    rw [e40_4]
    have h6 : ¬ (6 : Int32) ≤ nI i := nI_ge (a := i) (b := 6) hi (by decide)
    unfold smS
    cases hb : th.testBit i
    · simp only [e40_0, e40_1, e40_2, e40_3, e40_5, e40_7, e40_10, e40_11, e40_14, e40_15, e40_18, e40_21, e40_22, e40_23, e40_26, e40_27, e40_28, e40_29, e40_30, e40_33, e40_36, e40_37, true_or, or_true, true_and, and_true, Option.toList, List.cons_append, List.nil_append, if_true, if_false, reduceIte, k1, v2, h6, c32 (s := th) (k := i) (by omega) (by omega), hb, bI_0, nI_1, Bool.false_eq_true]
    · simp only [e40_0, e40_1, e40_2, e40_3, e40_5, e40_7, e40_10, e40_11, e40_14, e40_15, e40_18, e40_21, e40_22, e40_23, e40_26, e40_27, e40_28, e40_29, e40_30, e40_33, e40_36, e40_37, true_or, or_true, true_and, and_true, Option.toList, List.cons_append, List.nil_append, if_true, if_false, reduceIte, k1, k2, k3, v2, h6, c32 (s := th) (k := i) (by omega) (by omega), hb, bI_0, nI_1, in_eq (j := i) (n := 6) hi (by decide), nI_clamp (n := i) (by omega), v1 i hb, nI_add, Bool.true_eq_false]
  · rw [e40_4]
    simp only [e40_0, e40_1, e40_2, e40_3, e40_5, e40_7, e40_10, e40_11, e40_14, e40_15, e40_18, e40_21, e40_22, e40_23, e40_26, e40_27, e40_28, e40_29, e40_30, e40_33, e40_36, e40_37, true_or, or_true, true_and, and_true, Option.toList, List.cons_append, List.nil_append, if_true, if_false, reduceIte]
    rw [if_pos (show (6 : Int32) ≤ nI 6 from nI_le (Nat.le_refl 6) (by decide))]
    rfl
set_option maxHeartbeats 1000000 in
/-- State.mostWords -/
theorem c55 {d c th : Nat} {f : Nat → Nat} {σ : ab_St} {Q : Option Value → ab_St → Prop} (ho : stO c) (hv : stV σ c f th) : Ev (d + 1) 55 0 [some (.ref c), none, none] [] σ Q = Q (some (.int (nI (mx th f 6)))) σ := by
  obtain ⟨k1, k2, k3⟩ := ho
  obtain ⟨v1, v2, v3, v4⟩ := hv
  simp only [e55_0, e55_1, e55_2, e55_3]
  refine (ev_for (fun i (a : Nat) => Ev (d + 1) 55 4 [some (.ref c), some (.int (nI a)), some (.int (nI i))] [] σ Q) (mxS th f) 0 6 ?_).trans ?_
  · intro i hi
    have hB : itn (mxS th f) i 0 ≤ 100000 := mx_le th f 100000 i (fun p _ hp => Nat.le_of_lt (v4 p hp))
    generalize itn (mxS th f) i 0 = a at hB
    rw [e55_4]
    have h6 : ¬ (6 : Int32) ≤ nI i := nI_ge (a := i) (b := 6) hi (by decide)
    unfold mxS
    cases hb : th.testBit i
    · simp only [e55_0, e55_1, e55_2, e55_3, e55_5, e55_7, e55_10, e55_11, e55_14, e55_15, e55_18, e55_21, e55_22, e55_23, e55_26, e55_27, e55_28, e55_31, e55_32, e55_35, e55_38, e55_39, true_or, or_true, true_and, and_true, Option.toList, List.cons_append, List.nil_append, if_true, if_false, reduceIte, k1, v2, h6, c32 (s := th) (k := i) (by omega) (by omega), hb, bI_0, nI_1, Bool.false_eq_true]
    · have hl := v4 i hb
      simp only [e55_0, e55_1, e55_2, e55_3, e55_5, e55_7, e55_10, e55_11, e55_14, e55_15, e55_18, e55_21, e55_22, e55_23, e55_26, e55_27, e55_28, e55_31, e55_32, e55_35, e55_38, e55_39, true_or, or_true, true_and, and_true, Option.toList, List.cons_append, List.nil_append, if_true, if_false, reduceIte, k1, k2, k3, v2, h6, c32 (s := th) (k := i) (by omega) (by omega), hb, bI_0, nI_1, in_eq (j := i) (n := 6) hi (by decide), nI_clamp (n := i) (by omega), v1 i hb, nI_ltI (a := a) (b := f i) (by omega) (by omega), Bool.true_eq_false]
      split <;> rfl
  · rw [e55_4]
    simp only [e55_0, e55_1, e55_2, e55_3, e55_5, e55_7, e55_10, e55_11, e55_14, e55_15, e55_18, e55_21, e55_22, e55_23, e55_26, e55_27, e55_28, e55_31, e55_32, e55_35, e55_38, e55_39, true_or, or_true, true_and, and_true, Option.toList, List.cons_append, List.nil_append, if_true, if_false, reduceIte]
    rw [if_pos (show (6 : Int32) ≤ nI 6 from nI_le (Nat.le_refl 6) (by decide))]
    rfl
/-- what is missing below a level -/
def msS (th : Nat) (f : Nat → Nat) (lv i a : Nat) : Nat := if th.testBit i = true then a + (lv - f i) else a
set_option maxHeartbeats 1000000 in
/-- State.wordsMissingBelow -/
theorem c78 {d c th lv : Nat} {f : Nat → Nat} {σ : ab_St} {Q : Option Value → ab_St → Prop} (ho : stO c) (hv : stV σ c f th) (hlv : lv < 100000) : Ev (d + 1) 78 0 [some (.ref c), some (.int (nI lv)), none, none] [] σ Q = Q (some (.int (nI (itn (msS th f lv) 6 0)))) σ := by
  obtain ⟨k1, k2, k3⟩ := ho
  obtain ⟨v1, v2, v3, v4⟩ := hv
  simp only [e78_0, e78_1, e78_2, e78_3]
  refine (ev_for (fun i (a : Nat) => Ev (d + 1) 78 4 [some (.ref c), some (.int (nI lv)), some (.int (nI a)), some (.int (nI i))] [] σ Q) (msS th f lv) 0 6 ?_).trans ?_
  · intro i hi
    generalize itn (msS th f lv) i 0 = a
    rw [e78_4]
    have h6 : ¬ (6 : Int32) ≤ nI i := nI_ge (a := i) (b := 6) hi (by decide)
    unfold msS
    cases hb : th.testBit i
    · simp only [e78_0, e78_1, e78_2, e78_3, e78_5, e78_7, e78_10, e78_11, e78_14, e78_15, e78_18, e78_21, e78_22, e78_23, e78_24, e78_25, e78_28, e78_29, e78_30, e78_31, e78_34, e78_35, e78_36, e78_39, e78_42, e78_43, true_or, or_true, true_and, and_true, Option.toList, List.cons_append, List.nil_append, if_true, if_false, reduceIte, k1, v2, h6, c32 (s := th) (k := i) (by omega) (by omega), hb, bI_0, nI_1, Bool.false_eq_true]
    · have hl := v4 i hb
      have hm : (if (0 : Int32) < nI lv - nI (f i) then nI lv - nI (f i) else 0) = nI (lv - f i) := by
        have ht : (nI lv - nI (f i)).toInt = (lv : Int) - (f i : Int) := pk_sub_toInt (by omega) (by omega)
        by_cases e : f i < lv
        · rw [if_pos (by rw [Int32.lt_iff_toInt_lt, ht]; show (0 : Int) < _; omega), pk_sub (by omega)]
        · rw [if_neg (by rw [Int32.lt_iff_toInt_lt, ht]; show ¬ (0 : Int) < _; omega), show lv - f i = 0 by omega]
          rfl
      simp only [e78_0, e78_1, e78_2, e78_3, e78_5, e78_7, e78_10, e78_11, e78_14, e78_15, e78_18, e78_21, e78_22, e78_23, e78_24, e78_25, e78_28, e78_29, e78_30, e78_31, e78_34, e78_35, e78_36, e78_39, e78_42, e78_43, true_or, or_true, true_and, and_true, Option.toList, List.cons_append, List.nil_append, if_true, if_false, reduceIte, k1, k2, k3, v2, h6, c32 (s := th) (k := i) (by omega) (by omega), hb, bI_0, nI_1, in_eq (j := i) (n := 6) hi (by decide), nI_clamp (n := i) (by omega), v1 i hb, hm, nI_add, Bool.true_eq_false]
  · rw [e78_4]
    simp only [e78_0, e78_1, e78_2, e78_3, e78_5, e78_7, e78_10, e78_11, e78_14, e78_15, e78_18, e78_21, e78_22, e78_23, e78_24, e78_25, e78_28, e78_29, e78_30, e78_31, e78_34, e78_35, e78_36, e78_39, e78_42, e78_43, true_or, or_true, true_and, and_true, Option.toList, List.cons_append, List.nil_append, if_true, if_false, reduceIte]
    rw [if_pos (show (6 : Int32) ≤ nI 6 from nI_le (Nat.le_refl 6) (by decide))]
/-- how many -/
def cnt (th : Nat) (n : Nat) : Nat := sm th (fun _ => 1) n
def bcU (x y : Int32) : Int32 := (x.toUInt32 >>> (y.toUInt32 &&& Int32.toUInt32 31)).toInt32
def bc1 (x : Int32) : Int32 := x - (bcU x 1 &&& 1431655765)
def bc2 (x : Int32) : Int32 := (x &&& 858993459) + (bcU x 2 &&& 858993459)
def bc3 (x : Int32) : Int32 := (x + bcU x 4) &&& 252645135
def bc4 (x : Int32) : Int32 := x + bcU x 8
def bc5 (x : Int32) : Int32 := x + bcU x 16
theorem bc_all : ∀ t : Fin 64, bc5 (bc4 (bc3 (bc2 (bc1 (nI t.val))))) &&& 63 = nI (cnt t.val 6) := by decide +kernel
theorem c54 {d th : Nat} {σ : ab_St} {Q : Option Value → ab_St → Prop} (hth : th < 64) : Ev d 54 0 [some (.int (nI th))] [] σ Q = Q (some (.int (nI (cnt th 6)))) σ := by
  simp only [e54_0, e54_1, e54_2, e54_3, e54_4, e54_7, e54_8, e54_9, e54_10, e54_11, e54_14, e54_15, e54_16, e54_17, e54_18, e54_21, e54_22, e54_23, e54_24, e54_25, e54_26, e54_27, e54_28, e54_29, e54_32, e54_33, e54_34, e54_35, e54_36, e54_38, e54_39, e54_40, e54_41, e54_42, e54_43, e54_45, e54_46, e54_47, e54_48, e54_49, e54_51, e54_52, true_or, or_true, true_and, and_true, Option.toList, List.cons_append, List.nil_append, if_true, if_false, reduceIte]
  exact congrArg (fun z => Q (some (.int z)) σ) (bc_all ⟨th, hth⟩)
/-- State.countThere -/
theorem c53 {d c th : Nat} {σ : ab_St} {Q : Option Value → ab_St → Prop} (k1 : ab_k c = 4) (v2 : σ.1 c 1 = nI th) (hth : th < 64) : Ev (d + 1) 53 0 [some (.ref c)] [] σ Q = Q (some (.int (nI (cnt th 6)))) σ := by
  simp only [e53_0, e53_1, e53_4, e53_7, true_or, or_true, true_and, and_true, Option.toList, List.cons_append, List.nil_append, if_true, if_false, reduceIte, k1, v2, c54 hth]
/-- State.wordsOfNewcomer -/
def nwc (th : Nat) (f : Nat → Nat) (lw : Nat) : Nat := if lw = 0 ∨ cnt th 6 = 0 then 0 else if lw = 1 then sm th f 6 / cnt th 6 else mx th f 6
theorem cnt_le (th n : Nat) : cnt th n ≤ n := by
  have := sm_le th (fun _ => 1) 1 n (fun _ _ _ => Nat.le_refl 1)
  rw [Nat.mul_one] at this
  exact this
theorem c52 {d c th lw : Nat} {f : Nat → Nat} {σ : ab_St} {Q : Option Value → ab_St → Prop} (ho : stO c) (hv : stV σ c f th) (hlw : σ.1 c 4 = nI lw) (hlw3 : lw < 3) : Ev (d + 2) 52 0 [some (.ref c), none] [] σ Q = Q (some (.int (nI (nwc th f lw)))) σ := by
  have k1 := ho.1
  have v2 := hv.2.1
  have hth := hv.2.2.1
  have hc := cnt_le th 6
  have hsm : sm th f 6 ≤ 6 * 100000 := sm_le th f 100000 6 (fun p _ hp => Nat.le_of_lt (hv.2.2.2 p hp))
  have e0 : (nI lw = 0) = (lw = 0) := propext (nI_eq (a := lw) (b := 0) (by omega) (by decide))
  have e1 : (nI lw = 1) = (lw = 1) := propext (nI_eq (a := lw) (b := 1) (by omega) (by decide))
  have e2 : (nI (cnt th 6) = 0) = (cnt th 6 = 0) := propext (nI_eq (a := cnt th 6) (b := 0) (by omega) (by decide))
  simp only [e52_0, e52_1, e52_4, e52_5, e52_6, e52_9, e52_12, e52_13, e52_16, e52_17, e52_18, e52_19, e52_22, e52_23, e52_26, e52_27, e52_30, e52_31, e52_32, e52_35, e52_36, e52_39, true_or, or_true, true_and, and_true, Option.toList, List.cons_append, List.nil_append, if_true, if_false, reduceIte, k1, c53 k1 v2 hth, hlw, e0, e1, e2, c40 ho hv, c55 ho hv]
  unfold nwc
  by_cases h0 : lw = 0
  · simp only [if_pos h0, if_pos (Or.inl h0 : lw = 0 ∨ cnt th 6 = 0)]; rfl
  · by_cases h2 : cnt th 6 = 0
    · simp only [if_neg h0, if_pos h2, if_pos (Or.inr h2 : lw = 0 ∨ cnt th 6 = 0)]; rfl
    · have hn : ¬ (lw = 0 ∨ cnt th 6 = 0) := fun z => z.elim h0 h2
      simp only [if_neg h0, if_neg h2, if_neg hn]
      by_cases h1 : lw = 1
      · simp only [if_pos h1, h2, not_false_eq_true, true_and, pk_div (a := sm th f 6) (d := cnt th 6) (by omega) (by omega) (by omega)]
      · simp only [if_neg h1]
