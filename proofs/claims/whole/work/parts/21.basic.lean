/-! SMALL METHODS -/
theorem z00 : ((0 : Int32) = 0 ∨ (0 : Int32) = 1) = True := eq_true (Or.inl rfl)
theorem z10 : ((1 : Int32) = 0 ∨ (1 : Int32) = 1) = True := eq_true (Or.inr rfl)
/-- has -/
theorem c32 {d s k : Nat} {σ : ab_St} {Q : Option Value → ab_St → Prop} (hs : s < 2 ^ 31) (hk : k < 32) : Ev d 32 0 [some (.int (nI s)), some (.int (nI k))] [] σ Q = Q (some (.int (bI (s.testBit k)))) σ := by
  simp only [e32_0, e32_1, e32_2, e32_3, e32_4, e32_5, e32_8, e32_9, e32_12, e32_13, nI_has hs hk, bI_0, z00, z10, true_and]
  cases s.testBit k <;> rfl
theorem c113 {d s k : Nat} {σ : ab_St} {Q : Option Value → ab_St → Prop} (hs : s < 2 ^ 31) (hk : k < 32) : Ev d 113 0 [some (.int (nI s)), some (.int (nI k))] [] σ Q = Q (some (.int (bI (s.testBit k)))) σ := by
  simp only [e113_0, e113_1, e113_2, e113_3, e113_4, e113_5, e113_6, e113_9, e113_10, e113_13, e113_14, nI_has hs hk, bI_1, z00, z10, true_and]
  cases s.testBit k <;> rfl
/-- in -/
theorem c101 {d : Nat} {a b c : Int64} {σ : ab_St} {Q : Option Value → ab_St → Prop} : Ev d 101 0 [some (.long a), none, some (.long b), none, some (.long c), none] [] σ Q = Q (some (.int (bI (decide (b ≤ a ∧ a ≤ c))))) σ := by
  simp only [e101_0, e101_1, e101_2, e101_3, e101_6, e101_7, e101_9, e101_10, e101_13, e101_14, e101_17, e101_18, z00, z10, true_and]
  have h1 : (lg_cmp a b < 0) = ¬ b ≤ a := by rw [← Int32.not_le]; exact propext (not_congr (lg_cmp_ge a b))
  have h2 : (0 < lg_cmp a c) = ¬ a ≤ c := by rw [← Int32.not_le]; exact propext (not_congr (lg_cmp_le a c))
  simp only [h1, h2]
  by_cases e1 : b ≤ a <;> by_cases e2 : a ≤ c <;> simp [e1, e2, bI]
