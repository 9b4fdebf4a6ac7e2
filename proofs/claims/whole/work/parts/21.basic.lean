/-! SMALL METHODS -/
/-- has -/
theorem c32 {d s k : Nat} {σ : ab_St} {Q : Option Value → ab_St → Prop} (hs : s < 2 ^ 31) (hk : k < 32) : Ev d 32 0 [some (.int (nI s)), some (.int (nI k))] [] σ Q = Q (some (.int (bI (s.testBit k)))) σ := by
  simp only [e32_0, e32_1, e32_2, e32_3, e32_4, e32_5, e32_8, e32_9, e32_12, e32_13, nI_has hs hk, bI_0, true_or, or_true, true_and, and_true, Option.toList, List.cons_append, List.nil_append, if_true, if_false, reduceIte]
  cases s.testBit k <;> simp [bI]
theorem c113 {d s k : Nat} {σ : ab_St} {Q : Option Value → ab_St → Prop} (hs : s < 2 ^ 31) (hk : k < 32) : Ev d 113 0 [some (.int (nI s)), some (.int (nI k))] [] σ Q = Q (some (.int (bI (s.testBit k)))) σ := by
  simp only [e113_0, e113_1, e113_2, e113_3, e113_4, e113_5, e113_6, e113_9, e113_10, e113_13, e113_14, nI_has hs hk, bI_1, true_or, or_true, true_and, and_true, Option.toList, List.cons_append, List.nil_append, if_true, if_false, reduceIte]
  cases s.testBit k <;> simp [bI]
/-- in -/
theorem c101 {d : Nat} {a b c : Int64} {σ : ab_St} {Q : Option Value → ab_St → Prop} : Ev d 101 0 [some (.long a), none, some (.long b), none, some (.long c), none] [] σ Q = Q (some (.int (bI (decide (b ≤ a ∧ a ≤ c))))) σ := by
  simp only [e101_0, e101_1, e101_2, e101_3, e101_6, e101_7, e101_9, e101_10, e101_13, e101_14, e101_17, e101_18, true_or, or_true, true_and, and_true, Option.toList, List.cons_append, List.nil_append, if_true, if_false, reduceIte]
  have h1 : (lg_cmp a b < 0) = ¬ b ≤ a := by rw [← Int32.not_le]; exact propext (not_congr (lg_cmp_ge a b))
  have h2 : (0 < lg_cmp a c) = ¬ a ≤ c := by rw [← Int32.not_le]; exact propext (not_congr (lg_cmp_le a c))
  simp only [h1, h2]
  by_cases e1 : b ≤ a <;> by_cases e2 : a ≤ c <;> simp [e1, e2, bI]
/-- loops from 0 on -/
def itn {α : Type} (step : Nat → α → α) : Nat → α → α
  | 0, a => a
  | n + 1, a => step n (itn step n a)
theorem ev_for {α : Type} (G : Nat → α → Prop) (step : Nat → α → α) (a0 : α) : ∀ (N : Nat), (∀ i, i < N → G i (itn step i a0) = G (i + 1) (step i (itn step i a0))) → G 0 a0 = G N (itn step N a0) := by
  intro N
  induction N with
  | zero => intro _; rfl
  | succ N ih => intro h; rw [ih (fun i hi => h i (by omega)), h N (by omega)]; rfl
/-- the set of those below n with P -/
def sof (n : Nat) (P : Nat → Bool) : Nat := itn (fun i a => if P i then a ||| 2 ^ i else a) n 0
theorem sof_bit (n : Nat) (P : Nat → Bool) (i : Nat) : (sof n P).testBit i = (decide (i < n) && P i) := by
  induction n with
  | zero => simp [sof, itn]
  | succ n ih =>
    show (if P n then sof n P ||| 2 ^ n else sof n P).testBit i = _
    by_cases h : i = n
    · subst h
      cases hp : P i
      · rw [if_neg (by simp), ih]; simp
      · rw [if_pos rfl, bit_set]; simp
    · have hne : ¬ n = i := fun e => h e.symm
      have hl : (i < n + 1) = (i < n) := propext ⟨fun q => by omega, fun q => by omega⟩
      cases hp : P n
      · rw [if_neg (by simp), ih]; simp [hl]
      · rw [if_pos rfl, bit_set, ih]; simp [hl, hne]
theorem sof_lt (n : Nat) (P : Nat → Bool) : sof n P < 2 ^ n := by
  induction n with
  | zero => simp [sof, itn]
  | succ n ih =>
    show (if P n then sof n P ||| 2 ^ n else sof n P) < 2 ^ (n + 1)
    have h1 : sof n P < 2 ^ (n + 1) := Nat.lt_of_lt_of_le ih (Nat.pow_le_pow_right (by decide) (by omega))
    split
    · exact Nat.or_lt_two_pow h1 (Nat.pow_lt_pow_right (by decide) (by omega))
    · exact h1
theorem bits_ext {a b : Nat} (h : ∀ i, a.testBit i = b.testBit i) : a = b := Nat.eq_of_testBit_eq h
theorem bit_lt {a n i : Nat} (h : a < 2 ^ n) (hi : a.testBit i = true) : i < n := by
  by_cases hn : i < n
  · exact hn
  · rw [Nat.testBit_lt_two_pow (Nat.lt_of_lt_of_le h (Nat.pow_le_pow_right (by decide) (by omega)))] at hi
    cases hi
/-- LEAST of th by words f -/
def lst (th : Nat) (f : Nat → Nat) : Nat := sof 6 (fun p => th.testBit p && (List.range 6).all (fun q => !th.testBit q || decide (f p ≤ f q)))
theorem lst_bit {th : Nat} {f : Nat → Nat} (hth : th < 64) (p : Nat) : (lst th f).testBit p = true ↔ th.testBit p = true ∧ ∀ q, th.testBit q = true → f p ≤ f q := by
  unfold lst
  rw [sof_bit]
  simp only [Bool.and_eq_true, decide_eq_true_eq, List.all_eq_true, List.mem_range, Bool.or_eq_true, Bool.not_eq_true']
  constructor
  · rintro ⟨h1, h2, h3⟩
    refine ⟨h2, fun q hq => ?_⟩
    rcases h3 q (bit_lt (n := 6) hth hq) with z | z
    · rw [hq] at z; cases z
    · exact z
  · rintro ⟨h1, h2⟩
    refine ⟨bit_lt (n := 6) hth h1, h1, fun q _ => ?_⟩
    cases hq : th.testBit q
    · exact Or.inl rfl
    · exact Or.inr (h2 q hq)
theorem lst_lt (th : Nat) (f : Nat → Nat) : lst th f < 64 := sof_lt 6 _
/-- fewest words so far, those that have said them -/
def lsS (M : Nat) (th : Nat) (f : Nat → Nat) (i : Nat) (a : Nat × Nat) : Nat × Nat := if th.testBit i = true then (if f i ≤ a.1 then (if a.1 ≤ f i then (a.1, a.2 ||| 2 ^ i) else (f i, 0 ||| 2 ^ i)) else a) else a
theorem lsS_inv (M : Nat) (th : Nat) (f : Nat → Nat) (hf : ∀ p, th.testBit p = true → f p < M) (n : Nat) : (itn (lsS M th f) n (M, 0)).1 ≤ M ∧ (itn (lsS M th f) n (M, 0)).2 < 2 ^ n ∧ (∀ p, p < n → th.testBit p = true → (itn (lsS M th f) n (M, 0)).1 ≤ f p) ∧ (∀ p, (itn (lsS M th f) n (M, 0)).2.testBit p = true ↔ p < n ∧ th.testBit p = true ∧ f p = (itn (lsS M th f) n (M, 0)).1) := by
  induction n with
  | zero => simp [itn]
  | succ n ih =>
    obtain ⟨h1, h2, h3, h4⟩ := ih
    show (lsS M th f n (itn (lsS M th f) n (M, 0))).1 ≤ M ∧ (lsS M th f n (itn (lsS M th f) n (M, 0))).2 < 2 ^ (n + 1) ∧ (∀ p, p < n + 1 → th.testBit p = true → (lsS M th f n (itn (lsS M th f) n (M, 0))).1 ≤ f p) ∧ (∀ p, (lsS M th f n (itn (lsS M th f) n (M, 0))).2.testBit p = true ↔ p < n + 1 ∧ th.testBit p = true ∧ f p = (lsS M th f n (itn (lsS M th f) n (M, 0))).1)
    generalize itn (lsS M th f) n (M, 0) = a at h1 h2 h3 h4 ⊢
    obtain ⟨x, s⟩ := a
    simp only at h1 h2 h3 h4
    have hp : 2 ^ n < 2 ^ (n + 1) := Nat.pow_lt_pow_right (by decide) (by omega)
    unfold lsS
    by_cases hb : th.testBit n = true
    · rw [if_pos hb]
      by_cases hle : f n ≤ x
      · rw [if_pos hle]
        by_cases hge : x ≤ f n
        · rw [if_pos hge]
          refine ⟨h1, Nat.or_lt_two_pow (by omega) hp, fun p hp1 hp2 => ?_, fun p => ?_⟩
          · rcases Nat.lt_succ_iff_lt_or_eq.mp hp1 with q | rfl
            · exact h3 p q hp2
            · exact hge
          · simp only
            rw [bit_set, Bool.or_eq_true, h4, decide_eq_true_eq]
            constructor
            · rintro (⟨q1, q2, q3⟩ | rfl)
              · exact ⟨by omega, q2, q3⟩
              · exact ⟨by omega, hb, by omega⟩
            · rintro ⟨q1, q2, q3⟩
              rcases Nat.lt_succ_iff_lt_or_eq.mp q1 with q | rfl
              · exact Or.inl ⟨q, q2, q3⟩
              · exact Or.inr rfl
        · rw [if_neg hge]
          refine ⟨by simp only; omega, by simp only [Nat.zero_or]; exact hp, fun p hp1 hp2 => ?_, fun p => ?_⟩
          · simp only
            rcases Nat.lt_succ_iff_lt_or_eq.mp hp1 with q | rfl
            · have := h3 p q hp2; omega
            · exact Nat.le_refl _
          · simp only
            rw [Nat.zero_or, Nat.testBit_two_pow, decide_eq_true_eq]
            constructor
            · rintro rfl
              exact ⟨by omega, hb, rfl⟩
            · rintro ⟨q1, q2, q3⟩
              rcases Nat.lt_succ_iff_lt_or_eq.mp q1 with q | rfl
              · have := h3 p q q2; omega
              · rfl
      · rw [if_neg hle]
        refine ⟨h1, by simp only; omega, fun p hp1 hp2 => ?_, fun p => ?_⟩
        · simp only
          rcases Nat.lt_succ_iff_lt_or_eq.mp hp1 with q | rfl
          · exact h3 p q hp2
          · omega
        · simp only
          rw [h4]
          constructor
          · rintro ⟨q1, q2, q3⟩
            exact ⟨by omega, q2, q3⟩
          · rintro ⟨q1, q2, q3⟩
            rcases Nat.lt_succ_iff_lt_or_eq.mp q1 with q | rfl
            · exact ⟨q, q2, q3⟩
            · omega
    · rw [if_neg hb]
      refine ⟨h1, by simp only; omega, fun p hp1 hp2 => ?_, fun p => ?_⟩
      · simp only
        rcases Nat.lt_succ_iff_lt_or_eq.mp hp1 with q | rfl
        · exact h3 p q hp2
        · exact absurd hp2 hb
      · simp only
        rw [h4]
        constructor
        · rintro ⟨q1, q2, q3⟩
          exact ⟨by omega, q2, q3⟩
        · rintro ⟨q1, q2, q3⟩
          rcases Nat.lt_succ_iff_lt_or_eq.mp q1 with q | rfl
          · exact ⟨q, q2, q3⟩
          · exact absurd q2 hb
theorem lsS_end {M th : Nat} {f : Nat → Nat} (hth : th < 64) (hf : ∀ p, th.testBit p = true → f p < M) : (itn (lsS M th f) 6 (M, 0)).2 = lst th f := by
  obtain ⟨h1, h2, h3, h4⟩ := lsS_inv M th f hf 6
  apply bits_ext
  intro i
  rw [Bool.eq_iff_iff, h4, lst_bit hth]
  constructor
  · rintro ⟨q1, q2, q3⟩
    exact ⟨q2, fun q hq => by rw [q3]; exact h3 q (bit_lt (n := 6) hth hq) hq⟩
  · rintro ⟨q1, q2⟩
    refine ⟨bit_lt (n := 6) hth q1, q1, ?_⟩
    -- somebody has said the fewest
    have hex : ∀ n, (∃ p, p < n ∧ th.testBit p = true) → ∃ p, p < n ∧ th.testBit p = true ∧ f p = (itn (lsS M th f) n (M, 0)).1 := by
      intro n
      induction n with
      | zero => rintro ⟨p, hp, _⟩; omega
      | succ n ih =>
        rintro ⟨p, hp, hpb⟩
        obtain ⟨g1, g2, g3, g4⟩ := lsS_inv M th f hf n
        show ∃ p, p < n + 1 ∧ th.testBit p = true ∧ f p = (lsS M th f n (itn (lsS M th f) n (M, 0))).1
        generalize hgen : itn (lsS M th f) n (M, 0) = a at g1 g2 g3 g4
        obtain ⟨x, s⟩ := a
        rw [hgen] at ih
        unfold lsS
        by_cases hb : th.testBit n = true
        · rw [if_pos hb]
          by_cases hle : f n ≤ x
          · rw [if_pos hle]
            by_cases hge : x ≤ f n
            · rw [if_pos hge]; exact ⟨n, by omega, hb, by simp only; omega⟩
            · rw [if_neg hge]; exact ⟨n, by omega, hb, rfl⟩
          · rw [if_neg hle]
            simp only at g1 g2 g3 g4 ih ⊢
            by_cases hpn : ∃ p, p < n ∧ th.testBit p = true
            · obtain ⟨p, k1, k2, k3⟩ := ih hpn
              exact ⟨p, by omega, k2, k3⟩
            · have hx : x = M := by
                have : (itn (lsS M th f) n (M, 0)).1 = M := by
                  have key : ∀ m, m ≤ n → itn (lsS M th f) m (M, 0) = (M, 0) := by
                    intro m
                    induction m with
                    | zero => intro _; rfl
                    | succ m ihm =>
                      intro hm
                      show lsS M th f m (itn (lsS M th f) m (M, 0)) = (M, 0)
                      rw [ihm (by omega)]
                      unfold lsS
                      rw [if_neg (fun z => hpn ⟨m, by omega, z⟩)]
                  rw [key n (Nat.le_refl n)]
                rw [hgen] at this
                exact this
              have := hf n hb
              omega
        · rw [if_neg hb]
          simp only at g1 g2 g3 g4 ih ⊢
          have hpn : p < n := by
            rcases Nat.lt_succ_iff_lt_or_eq.mp hp with q | rfl
            · exact q
            · exact absurd hpb hb
          obtain ⟨p, k1, k2, k3⟩ := ih ⟨p, hpn, hpb⟩
          exact ⟨p, by omega, k2, k3⟩
    obtain ⟨p, k1, k2, k3⟩ := hex 6 ⟨i, bit_lt (n := 6) hth q1, q1⟩
    have e1 := h3 i (bit_lt (n := 6) hth q1) q1
    have e2 := q2 p k2
    omega
