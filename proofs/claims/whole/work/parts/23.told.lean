/-! WHAT IS TOLD -/
theorem b_or (b : Bool) : (b = false ∨ b = true) = True := by cases b <;> simp
abbrev gT : Type := Nat × Nat × (Nat → Nat) × (Nat → Nat) × (Nat → Nat) × (Nat → Int32)
def tP (t : gT) : Nat := t.1
def tS (t : gT) : Nat := t.2.1
def tw (t : gT) : Nat → Nat := t.2.2.1
def tz (t : gT) : Nat → Nat := t.2.2.2.1
def tv (t : gT) : Nat → Nat := t.2.2.2.2.1
def ta (t : gT) : Nat → Int32 := t.2.2.2.2.2
def tok (t : gT) : Prop := tP t ≤ 6 ∧ tS t ≤ 8 ∧ ∀ s, s < tS t → tw t s < tP t ∧ 1 ≤ tz t s ∧ tz t s ≤ 9 ∧ tv t s ≤ 9 ∧ (ta t s = -9 ∨ ∃ a, a < s ∧ ta t s = nI a)
def tdO (c : Nat) : Prop := ab_k c = 3 ∧ (ab_k (ab_r c 0) = 100 ∧ ab_n (ab_r c 0) = 8) ∧ (ab_k (ab_r c 1) = 100 ∧ ab_n (ab_r c 1) = 8) ∧ (ab_k (ab_r c 2) = 100 ∧ ab_n (ab_r c 2) = 8) ∧ (ab_k (ab_r c 3) = 100 ∧ ab_n (ab_r c 3) = 8)
def tdV (σ : ab_St) (c : Nat) (t : gT) : Prop := σ.1 c 4 = nI (tP t) ∧ σ.1 c 5 = nI (tS t) ∧ ∀ s, s < tS t → σ.1 (ab_r c 0) s = nI (tw t s) ∧ σ.1 (ab_r c 1) s = nI (tz t s) ∧ σ.1 (ab_r c 2) s = nI (tv t s) ∧ σ.1 (ab_r c 3) s = ta t s
/-- a number from 0 to n - 1 -/
def inR (x : Int32) (n : Nat) : Bool := decide (0 ≤ x.toInt ∧ x.toInt < n)
theorem inR_nI {j n : Nat} (hj : j < 2 ^ 31) : inR (nI j) n = decide (j < n) := by
  unfold inR
  rw [nI_toInt hj]
  simp
theorem inR_of {x : Int32} {n : Nat} (h : inR x n = true) (hn : n < 2 ^ 31) : ∃ j, j < n ∧ x = nI j := by
  unfold inR at h
  have h := of_decide_eq_true h
  refine ⟨x.toInt.toNat, by omega, ?_⟩
  apply Int32.toInt_inj.mp
  rw [nI_toInt (by omega)]
  omega
theorem lt0_iff (x : Int32) : (x < 0) = (x.toInt < 0) := propext Int32.lt_iff_toInt_lt
theorem ge_iff {x : Int32} {n : Nat} (hn : n < 2 ^ 31) : (nI n ≤ x) = ((n : Int) ≤ x.toInt) := by
  apply propext
  rw [Int32.le_iff_toInt_le, nI_toInt hn]
/-- Told.hasPerson, hasSaying -/
theorem c26 {d c P : Nat} {x : Int32} {σ : ab_St} {Q : Option Value → ab_St → Prop} (k1 : ab_k c = 3) (v : σ.1 c 4 = nI P) (hP : P ≤ 6) : Ev d 26 0 [some (.ref c), some (.int x)] [] σ Q = Q (some (.int (bI (inR x P)))) σ := by
  simp only [e26_0, e26_1, e26_4, e26_5, e26_6, e26_9, e26_12, e26_13, e26_16, e26_17, true_or, or_true, true_and, and_true, Option.toList, List.cons_append, List.nil_append, if_true, if_false, reduceIte, k1, v, lt0_iff, ge_iff (n := P) (by omega)]
  unfold inR bI
  by_cases h1 : x.toInt < 0
  · rw [if_pos h1, if_neg (by simp; omega)]
  · rw [if_neg h1]
    by_cases h2 : (P : Int) ≤ x.toInt
    · rw [if_pos h2, if_neg (by simp; omega)]
    · rw [if_neg h2, if_pos (by simp; omega)]
theorem c31 {d c P : Nat} {x : Int32} {σ : ab_St} {Q : Option Value → ab_St → Prop} (k1 : ab_k c = 3) (v : σ.1 c 5 = nI P) (hP : P ≤ 8) : Ev d 31 0 [some (.ref c), some (.int x)] [] σ Q = Q (some (.int (bI (inR x P)))) σ := by
  simp only [e31_0, e31_1, e31_4, e31_5, e31_6, e31_9, e31_12, e31_13, e31_16, e31_17, true_or, or_true, true_and, and_true, Option.toList, List.cons_append, List.nil_append, if_true, if_false, reduceIte, k1, v, lt0_iff, ge_iff (n := P) (by omega)]
  unfold inR bI
  by_cases h1 : x.toInt < 0
  · rw [if_pos h1, if_neg (by simp; omega)]
  · rw [if_neg h1]
    by_cases h2 : (P : Int) ≤ x.toInt
    · rw [if_pos h2, if_neg (by simp; omega)]
    · rw [if_neg h2, if_pos (by simp; omega)]
set_option maxHeartbeats 1000000 in
/-- Told.worthOf -/
theorem c39 {d c st : Nat} {t : gT} {σ : ab_St} {Q : Option Value → ab_St → Prop} (ho : tdO c) (ht : tok t) (hv : tdV σ c t) (hst : st < 2 ^ 31) : Ev (d + 1) 39 0 [some (.ref c), some (.int (nI st)), none, none] [] σ Q = Q (some (.int (nI (sm st (tv t) (tS t))))) σ := by
  obtain ⟨k1, -, -, ⟨k2, k3⟩, -⟩ := ho
  obtain ⟨t1, t2, t3⟩ := ht
  obtain ⟨v1, v2, v3⟩ := hv
  simp only [e39_0, e39_1, e39_2, e39_3]
  refine (ev_for (fun i (a : Nat) => Ev (d + 1) 39 4 [some (.ref c), some (.int (nI st)), some (.int (nI a)), some (.int (nI i))] [] σ Q) (smS st (tv t)) 0 (tS t) ?_).trans ?_
  · intro i hi
    generalize itn (smS st (tv t)) i 0 = a
    rw [e39_4]
    have h6 : ¬ nI (tS t) ≤ nI i := nI_ge hi (by omega)
    unfold smS
    cases hb : st.testBit i
    · simp only [e39_0, e39_1, e39_2, e39_3, e39_5, e39_6, e39_9, e39_12, e39_13, e39_14, e39_17, e39_20, e39_21, e39_22, e39_25, e39_26, e39_27, e39_28, e39_29, e39_32, e39_35, e39_36, true_or, or_true, true_and, and_true, Option.toList, List.cons_append, List.nil_append, if_true, if_false, reduceIte, k1, v2, h6, c32 (s := st) (k := i) hst (by omega), hb, bI_0, nI_1, Bool.false_eq_true]
    · simp only [e39_0, e39_1, e39_2, e39_3, e39_5, e39_6, e39_9, e39_12, e39_13, e39_14, e39_17, e39_20, e39_21, e39_22, e39_25, e39_26, e39_27, e39_28, e39_29, e39_32, e39_35, e39_36, true_or, or_true, true_and, and_true, Option.toList, List.cons_append, List.nil_append, if_true, if_false, reduceIte, k1, k2, k3, v2, h6, c32 (s := st) (k := i) hst (by omega), hb, bI_0, nI_1, in_eq (j := i) (n := 8) (by omega) (by decide), nI_clamp (n := i) (by omega), (v3 i hi).2.2.1, nI_add, Bool.true_eq_false]
  · rw [e39_4]
    simp only [e39_0, e39_1, e39_2, e39_3, e39_5, e39_6, e39_9, e39_12, e39_13, e39_14, e39_17, e39_20, e39_21, e39_22, e39_25, e39_26, e39_27, e39_28, e39_29, e39_32, e39_35, e39_36, true_or, or_true, true_and, and_true, Option.toList, List.cons_append, List.nil_append, if_true, if_false, reduceIte, k1, v2]
    rw [if_pos (nI_le (Nat.le_refl _) (by omega))]
    rfl
/-- the sayings of a person -/
def sgo (t : gT) (p : Nat) : Nat := sof (tS t) (fun s => tw t s == p)
set_option maxHeartbeats 1000000 in
/-- Told.sayingsOf -/
theorem c42 {d c p : Nat} {t : gT} {σ : ab_St} {Q : Option Value → ab_St → Prop} (ho : tdO c) (ht : tok t) (hv : tdV σ c t) (hp : p < 2 ^ 31) : Ev d 42 0 [some (.ref c), some (.int (nI p)), none, none] [] σ Q = Q (some (.int (nI (sgo t p)))) σ := by
  obtain ⟨k1, ⟨k2, k3⟩, -⟩ := ho
  obtain ⟨t1, t2, t3⟩ := ht
  obtain ⟨v1, v2, v3⟩ := hv
  simp only [e42_0, e42_1, e42_2, e42_3]
  refine (ev_for (fun i (a : Nat) => Ev d 42 4 [some (.ref c), some (.int (nI p)), some (.int (nI a)), some (.int (nI i))] [] σ Q) (fun i a => if (tw t i == p) = true then a ||| 2 ^ i else a) 0 (tS t) ?_).trans ?_
  · intro i hi
    have hs : itn (fun i a => if (tw t i == p) = true then a ||| 2 ^ i else a) i 0 < 2 ^ i := sof_lt i (fun s => tw t s == p)
    have hs8 : itn (fun i a => if (tw t i == p) = true then a ||| 2 ^ i else a) i 0 < 2 ^ 8 := Nat.lt_of_lt_of_le hs (Nat.pow_le_pow_right (by decide) (by omega))
    generalize itn (fun i a => if (tw t i == p) = true then a ||| 2 ^ i else a) i 0 = a at hs8
    rw [e42_4]
    have h6 : ¬ nI (tS t) ≤ nI i := nI_ge hi (by omega)
    have hw := (t3 i hi).1
    simp only [e42_0, e42_1, e42_2, e42_3, e42_5, e42_6, e42_9, e42_12, e42_13, e42_16, e42_17, e42_18, e42_19, e42_22, e42_23, e42_24, e42_25, e42_26, e42_27, e42_28, e42_31, e42_34, e42_35, true_or, or_true, true_and, and_true, Option.toList, List.cons_append, List.nil_append, if_true, if_false, reduceIte, k1, k2, k3, v2, h6, nI_1, in_eq (j := i) (n := 8) (by omega) (by decide), nI_clamp (n := i) (by omega), (v3 i hi).1, nI_eq (a := tw t i) (b := p) (by omega) hp, nI_set (a := a) (k := i) (by omega) (by omega), beq_iff_eq]
    split <;> rfl
  · rw [e42_4]
    simp only [e42_0, e42_1, e42_2, e42_3, e42_5, e42_6, e42_9, e42_12, e42_13, e42_16, e42_17, e42_18, e42_19, e42_22, e42_23, e42_24, e42_25, e42_26, e42_27, e42_28, e42_31, e42_34, e42_35, true_or, or_true, true_and, and_true, Option.toList, List.cons_append, List.nil_append, if_true, if_false, reduceIte, k1, v2]
    rw [if_pos (nI_le (Nat.le_refl _) (by omega))]
    rfl
/-- may it be said -/
def alw (t : gT) (f : Nat → Nat) (th sd : Nat) (la : Int32) (s : Nat) : Bool := !sd.testBit s && (th.testBit (tw t s) && (if ta t s = -9 then (lst th f).testBit (tw t s) else decide (ta t s = la)))
set_option maxHeartbeats 1000000 in
/-- State.allows -/
theorem c46 {d c c2 th sd s : Nat} {la : Int32} {f : Nat → Nat} {t : gT} {σ : ab_St} {Q : Option Value → ab_St → Prop} (ho : stO c) (hv : stV σ c f th) (hsd : σ.1 c 2 = nI sd) (hla : σ.1 c 3 = la) (hsd8 : sd < 256) (to : tdO c2) (ht : tok t) (tvv : tdV σ c2 t) (hs : s < tS t) : Ev (d + 2) 46 0 [some (.ref c), some (.ref c2), some (.int (nI s)), none, none] [] σ Q = Q (some (.int (bI (alw t f th sd la s)))) σ := by
  have k1 := ho.1
  have v2 := hv.2.1
  have v3 := hv.2.2.1
  obtain ⟨q1, ⟨q2, q3⟩, -, -, ⟨q4, q5⟩⟩ := to
  obtain ⟨t1, t2, t3⟩ := ht
  obtain ⟨w1, w2, w3⟩ := tvv
  have hw := (t3 s hs).1
  have hl := lst_lt th f
  simp only [e46_0, e46_1, e46_4, e46_5, e46_6, e46_7, e46_8, e46_11, e46_12, e46_15, e46_18, e46_19, e46_22, e46_23, e46_26, e46_29, e46_30, e46_31, e46_32, e46_35, e46_36, e46_37, e46_39, e46_41, e46_43, e46_46, e46_47, e46_50, e46_51, e46_54, e46_57, e46_59, e46_60, e46_63, e46_66, e46_67, e46_70, e46_71, true_or, or_true, true_and, and_true, Option.toList, List.cons_append, List.nil_append, if_true, if_false, reduceIte, k1, q1, q2, q3, q4, q5, in_eq (j := s) (n := 8) (by omega) (by decide), nI_clamp (n := s) (by omega), (w3 s hs).1, (w3 s hs).2.2.2, hsd, hla, v2, c32 (s := sd) (k := s) (by omega) (by omega), c32 (s := th) (k := tw t s) (by omega) (by omega), c38 ho hv, c32 (s := lst th f) (k := tw t s) (by omega) (by omega), bI_0, bI_1, b_or]
  unfold alw
  cases sd.testBit s
  · cases th.testBit (tw t s)
    · simp [bI]
    · by_cases e : ta t s = -9
      · simp [e]
      · by_cases e2 : ta t s = la
        · have e3 : ¬ la = -9 := e2 ▸ e
          simp [e2, e3, bI]
        · simp [e, e2, bI]
  · simp [bI]
/-- SaidLeast.firstOf -/
def fst6 (s : Nat) (i : Nat) : Nat → Int32
  | 0 => -9
  | k + 1 => if s.testBit i = true then nI i else fst6 s (i + 1) k
theorem c87 {d s : Nat} {σ : ab_St} {Q : Option Value → ab_St → Prop} (hs : s < 2 ^ 31) : Ev (d + 1) 87 0 [some (.int (nI s)), none] [] σ Q = Q (some (.int (fst6 s 0 6))) σ := by
  simp only [e87_0, e87_1]
  have key : ∀ k i, i + k = 6 → Ev (d + 1) 87 2 [some (.int (nI s)), some (.int (nI i))] [] σ Q = Q (some (.int (fst6 s i k))) σ := by
    intro k
    induction k with
    | zero =>
      intro i hi
      rw [e87_2]
      simp only [e87_0, e87_1, e87_3, e87_5, e87_8, e87_9, e87_10, e87_13, e87_16, e87_17, e87_18, e87_21, e87_24, e87_26, true_or, or_true, true_and, and_true, Option.toList, List.cons_append, List.nil_append, if_true, if_false, reduceIte]
      rw [if_pos (show (6 : Int32) ≤ nI i from nI_le (a := 6) (b := i) (by omega) (by omega))]
      rfl
    | succ k ih =>
      intro i hi
      rw [e87_2]
      have h6 : ¬ (6 : Int32) ≤ nI i := nI_ge (a := i) (b := 6) (by omega) (by decide)
      simp only [e87_0, e87_1, e87_3, e87_5, e87_8, e87_9, e87_10, e87_13, e87_16, e87_17, e87_18, e87_21, e87_24, e87_26, true_or, or_true, true_and, and_true, Option.toList, List.cons_append, List.nil_append, if_true, if_false, reduceIte, h6, c32 (s := s) (k := i) hs (by omega), bI_0, nI_1, fst6]
      cases s.testBit i
      · simp only [true_or, or_true, true_and, and_true, Option.toList, List.cons_append, List.nil_append, if_true, if_false, reduceIte, Bool.false_eq_true]
        exact ih (i + 1) (by omega)
      · simp only [true_or, or_true, true_and, and_true, Option.toList, List.cons_append, List.nil_append, if_true, if_false, reduceIte, Bool.true_eq_false]
  exact key 6 0 rfl
/-- Arrays.fill -/
theorem itn_upd (f : Nat → Int32) (v : Int32) (n : Nat) : itn (fun i g => upd g i v) n f = fun j => if j < n then v else f j := by
  induction n with
  | zero => funext j; simp [itn]
  | succ n ih =>
    show upd (itn (fun i g => upd g i v) n f) n v = _
    rw [ih]
    funext j
    unfold upd
    by_cases h : j = n
    · subst h; simp
    · by_cases h2 : j < n
      · simp only [if_neg h, if_pos h2, if_pos (show j < n + 1 by omega)]
      · simp only [if_neg h, if_neg h2, if_neg (show ¬ j < n + 1 by omega)]
set_option maxHeartbeats 1000000 in
theorem c17 {d c n : Nat} {v : Int32} {σ : ab_St} {Q : Option Value → ab_St → Prop} (k1 : ab_k c = 100) (k2 : ab_n c = n) (hn : n < 1000) : Ev d 17 0 [some (.ref c), some (.int v), none, none] [] σ Q = Q none (ab_wI σ c (fun j => if j < n then v else σ.1 c j)) := by
  simp only [e17_0, e17_1, e17_2, e17_3, e17_4, k1, k2]
  rw [eq_true (show 100 ≤ 100 ∧ 100 ≤ 103 by decide), true_and]
  refine (Eq.trans (congrArg (fun τ => Ev d 17 5 [some (.ref c), some (.int v), some (.int 0), some (.int (Int32.ofNat n))] [] τ Q) (wI_self σ c).symm) ?_)
  refine (ev_for (fun i (g : Nat → Int32) => Ev d 17 5 [some (.ref c), some (.int v), some (.int (nI i)), some (.int (nI n))] [] (ab_wI σ c g) Q) (fun i g => upd g i v) (σ.1 c) n ?_).trans ?_
  · intro i hi
    generalize itn (fun i g => upd g i v) i (σ.1 c) = g
    rw [e17_5]
    have h6 : ¬ nI n ≤ nI i := nI_ge hi (by omega)
    simp only [e17_0, e17_1, e17_2, e17_3, e17_4, e17_6, e17_7, e17_10, e17_11, e17_12, e17_13, e17_14, e17_17, e17_20, true_or, or_true, true_and, and_true, Option.toList, List.cons_append, List.nil_append, if_true, if_false, reduceIte, k1, k2, h6, in_eq (j := i) (n := n) hi (by omega), nI_clamp (n := i) (by omega), nI_1, wI_eq, wI_wI]
  · rw [e17_5]
    simp only [e17_0, e17_1, e17_2, e17_3, e17_4, e17_6, e17_7, e17_10, e17_11, e17_12, e17_13, e17_14, e17_17, e17_20, true_or, or_true, true_and, and_true, Option.toList, List.cons_append, List.nil_append, if_true, if_false, reduceIte]
    rw [if_pos (nI_le (Nat.le_refl _) (by omega)), itn_upd]

theorem itn_updL (f : Nat → Int64) (v : Int64) (n : Nat) : itn (fun i g => vp_updL g i v) n f = fun j => if j < n then v else f j := by
  induction n with
  | zero => funext j; simp [itn]
  | succ n ih =>
    show vp_updL (itn (fun i g => vp_updL g i v) n f) n v = _
    rw [ih]
    funext j
    unfold vp_updL
    by_cases h : j = n
    · subst h; simp
    · by_cases h2 : j < n
      · simp only [if_neg h, if_pos h2, if_pos (show j < n + 1 by omega)]
      · simp only [if_neg h, if_neg h2, if_neg (show ¬ j < n + 1 by omega)]
theorem wL_self (σ : ab_St) (c : Nat) : ab_wL σ c (σ.2 c) = σ := by
  refine Prod.ext rfl (funext fun k => ?_)
  by_cases h : k = c
  · subst h; simp [ab_wL]
  · simp [ab_wL, h]
theorem wL_wL (σ : ab_St) (c : Nat) (f g : Nat → Int64) : ab_wL (ab_wL σ c f) c g = ab_wL σ c g := by
  refine Prod.ext rfl (funext fun k => ?_)
  by_cases h : k = c
  · subst h; simp [ab_wL]
  · simp [ab_wL, h]
set_option maxHeartbeats 1000000 in
theorem c89 {d c n : Nat} {v : Int64} {σ : ab_St} {Q : Option Value → ab_St → Prop} (k1 : ab_k c = 103) (k2 : ab_n c = n) (hn : n < 1000) : Ev d 89 0 [some (.ref c), some (.long v), none, none, none] [] σ Q = Q none (ab_wL σ c (fun j => if j < n then v else σ.2 c j)) := by
  simp only [e89_0, e89_1, e89_2, e89_3, e89_4, k1, k2]
  rw [eq_true (show 100 ≤ 103 ∧ 103 ≤ 103 by decide), true_and]
  refine (Eq.trans (congrArg (fun τ => Ev d 89 6 [some (.ref c), some (.long v), none, some (.int 0), some (.int (Int32.ofNat n))] [] τ Q) (wL_self σ c).symm) ?_)
  refine (ev_for (fun i (g : Nat → Int64) => Ev d 89 6 [some (.ref c), some (.long v), none, some (.int (nI i)), some (.int (nI n))] [] (ab_wL σ c g) Q) (fun i g => vp_updL g i v) (σ.2 c) n ?_).trans ?_
  · intro i hi
    generalize itn (fun i g => vp_updL g i v) i (σ.2 c) = g
    rw [e89_6]
    have h6 : ¬ nI n ≤ nI i := nI_ge hi (by omega)
    simp only [e89_0, e89_1, e89_2, e89_3, e89_4, e89_7, e89_9, e89_12, e89_13, e89_14, e89_15, e89_16, e89_19, e89_22, true_or, or_true, true_and, and_true, Option.toList, List.cons_append, List.nil_append, if_true, if_false, reduceIte, k1, k2, h6, in_eq (j := i) (n := n) hi (by omega), nI_clamp (n := i) (by omega), nI_1, wL_eq, wL_wL]
  · rw [e89_6]
    simp only [e89_0, e89_1, e89_2, e89_3, e89_4, e89_7, e89_9, e89_12, e89_13, e89_14, e89_15, e89_16, e89_19, e89_22, true_or, or_true, true_and, and_true, Option.toList, List.cons_append, List.nil_append, if_true, if_false, reduceIte]
    rw [if_pos (nI_le (Nat.le_refl _) (by omega)), itn_updL]
theorem z_clamp : (0 : Int32).toNatClampNeg = 0 := rfl
theorem six_clamp : (6 : Int32).toNatClampNeg = 6 := rfl
theorem eight_clamp : (8 : Int32).toNatClampNeg = 8 := rfl
theorem n0 : ((0 : Int32) < 0) = False := eq_false (by decide)
theorem n6 : ((6 : Int32) < 0) = False := eq_false (by decide)
theorem n8 : ((8 : Int32) < 0) = False := eq_false (by decide)
/-- the first n places out of f, the others out of g -/
def cpN (n : Nat) (f g : Nat → Int32) : Nat → Int32 := fun j => if j < n then f j else g j
theorem va_cpy0 (n : Nat) (f g : Nat → Int32) : va_cpy f g 0 0 n = cpN n f g := by
  funext j
  unfold va_cpy cpN
  by_cases h : j < n
  · rw [if_pos ⟨Nat.zero_le j, by omega⟩, if_pos h]; simp
  · rw [if_neg (fun z => h (by omega)), if_neg h]
/-- State.copyFrom -/
theorem c35 {d c w c2 w2 : Nat} {σ : ab_St} {Q : Option Value → ab_St → Prop} (k1 : ab_k c = 4) (k2 : ab_k c2 = 4) (r1 : ab_r c 0 = w) (r2 : ab_r c2 0 = w2) (k3 : ab_k w = 100) (k4 : ab_k w2 = 100) (n1 : ab_n w = 6) (n2 : ab_n w2 = 6) (hc : c2 ≠ c) :
    Ev (d + 1) 35 0 [some (.ref c), some (.ref c2)] [] σ Q = Q none (ab_wI (ab_wI σ w (cpN 6 (σ.1 w2) (σ.1 w))) c (upd (upd (upd (upd (σ.1 c) 1 (σ.1 c2 1)) 2 (σ.1 c2 2)) 3 (σ.1 c2 3)) 4 (σ.1 c2 4))) := by
  have e1 : c ≠ w := fun e => by rw [e, k3] at k1; cases k1
  have e2 : c2 ≠ w := fun e => by rw [e, k3] at k2; cases k2
  simp only [e35_0, e35_1, e35_4, e35_5, e35_6, e35_9, e35_10, e35_12, e35_15, e35_16, e35_17, e35_20, e35_23, e35_24, e35_25, e35_28, e35_31, e35_32, e35_33, e35_36, e35_39, e35_40, e35_41, e35_44, e35_47, true_or, or_true, true_and, and_true, Option.toList, List.cons_append, List.nil_append, if_true, if_false, reduceIte, k1, k2, r1, r2, k3, k4, n1, n2, z_clamp, six_clamp, n0, n6, not_false_eq_true, Nat.zero_add, Nat.le_refl, va_cpy0, wI_eq, wI_wI, wI_ne _ _ e1, wI_ne _ _ e2, wI_ne _ _ hc]
/-- State.utter -/
theorem c49 {d c w c2 s : Nat} {t : gT} {sd x : Nat} {σ : ab_St} {Q : Option Value → ab_St → Prop} (k1 : ab_k c = 4) (r1 : ab_r c 0 = w) (k3 : ab_k w = 100) (n1 : ab_n w = 6) (to : tdO c2) (ht : tok t) (tvv : tdV σ c2 t) (hs : s < tS t) (hx : σ.1 w (tw t s) = nI x) (hsd : σ.1 c 2 = nI sd) (hsd8 : sd < 256) (hw2 : ab_r c2 1 ≠ w) (hc2 : c2 ≠ w) (hc3 : c2 ≠ c):
    Ev d 49 0 [some (.ref c), some (.ref c2), some (.int (nI s))] [] σ Q = Q none (ab_wI (ab_wI σ w (upd (σ.1 w) (tw t s) (nI (x + tz t s)))) c (upd (upd (σ.1 c) 2 (nI (sd ||| 2 ^ s))) 3 (nI s))) := by
  have e1 : c ≠ w := fun e => by rw [e, k3] at k1; cases k1
  obtain ⟨q1, ⟨q2, q3⟩, ⟨q4, q5⟩, -, -⟩ := to
  obtain ⟨t1, t2, t3⟩ := ht
  obtain ⟨w1, w2, w3⟩ := tvv
  have hw := (t3 s hs).1
  simp only [e49_0, e49_1, e49_4, e49_5, e49_8, e49_9, e49_10, e49_11, e49_12, e49_13, e49_16, e49_17, e49_18, e49_19, e49_20, e49_21, e49_22, e49_25, e49_26, e49_27, e49_28, e49_29, e49_32, e49_33, e49_34, e49_37, true_or, or_true, true_and, and_true, Option.toList, List.cons_append, List.nil_append, if_true, if_false, reduceIte, k1, r1, k3, n1, q1, q2, q3, q4, q5, in_eq (j := s) (n := 8) (by omega) (by decide), nI_clamp (n := s) (by omega), (w3 s hs).1, (w3 s hs).2.1, in_eq (j := tw t s) (n := 6) (by omega) (by decide), nI_clamp (n := tw t s) (by omega), hx, nI_add, wI_eq, wI_wI, wI_ne _ _ e1, hsd, nI_set (a := sd) (k := s) (by omega) (by omega)]
/-- Acts.clear -/
theorem c36 {d c : Nat} {σ : ab_St} {Q : Option Value → ab_St → Prop} (k1 : ab_k c = 5) : Ev d 36 0 [some (.ref c)] [] σ Q = Q none (ab_wI σ c (upd (σ.1 c) 6 0)) := by
  simp only [e36_0, e36_1, e36_2, e36_5, true_or, or_true, true_and, and_true, Option.toList, List.cons_append, List.nil_append, if_true, if_false, reduceIte, k1]
