/-! NUMBERS AND BITS -/
def bI (b : Bool) : Int32 := if b then 1 else 0
theorem bI_0 (b : Bool) : (bI b = 0) = (b = false) := by cases b <;> simp [bI]
theorem bI_1 (b : Bool) : (bI b = 1) = (b = true) := by cases b <;> simp [bI]
theorem bI_01 (b : Bool) : (bI b = 0 ∨ bI b = 1) = True := by cases b <;> simp [bI]
theorem nI_bv (n : Nat) : (nI n).toBitVec = BitVec.ofNat 32 n := rfl
theorem nI_ext {x : Int32} {n : Nat} (h : x.toBitVec.toNat = n) (hn : n < 2 ^ 32) : x = nI n := by
  apply Int32.toBitVec_inj.mp
  apply BitVec.eq_of_toNat_eq
  rw [h, nI_bv, BitVec.toNat_ofNat, Nat.mod_eq_of_lt hn]
theorem nI_and {a b : Nat} (ha : a < 2 ^ 32) (hb : b < 2 ^ 32) : nI a &&& nI b = nI (a &&& b) := by
  refine nI_ext ?_ (Nat.lt_of_le_of_lt Nat.and_le_left ha)
  rw [Int32.toBitVec_and, BitVec.toNat_and, pk_tn ha, pk_tn hb]
theorem nI_or {a b : Nat} (ha : a < 2 ^ 32) (hb : b < 2 ^ 32) : nI a ||| nI b = nI (a ||| b) := by
  refine nI_ext ?_ (Nat.or_lt_two_pow ha hb)
  rw [Int32.toBitVec_or, BitVec.toNat_or, pk_tn ha, pk_tn hb]
/-- a without b -/
def nd (a b : Nat) : Nat := a ^^^ (a &&& b)
theorem nd_bit (a b i : Nat) : (nd a b).testBit i = (a.testBit i && !b.testBit i) := by
  unfold nd
  rw [Nat.testBit_xor, Nat.testBit_and]
  cases a.testBit i <;> cases b.testBit i <;> rfl
theorem nd_lt {a b n : Nat} (h : a < 2 ^ n) : nd a b < 2 ^ n := Nat.xor_lt_two_pow h (Nat.lt_of_le_of_lt Nat.and_le_left h)
theorem nI_nd {a b : Nat} (ha : a < 2 ^ 32) (hb : b < 2 ^ 32) : nI a &&& (nI b ^^^ (-1)) = nI (nd a b) := by
  refine nI_ext ?_ (nd_lt ha)
  rw [Int32.toBitVec_and, Int32.toBitVec_xor, BitVec.toNat_and, BitVec.toNat_xor, pk_tn ha, pk_tn hb]
  apply Nat.eq_of_testBit_eq
  intro i
  rw [Nat.testBit_and, Nat.testBit_xor, nd_bit]
  have h1 : (Int32.toBitVec (-1)).toNat = 2 ^ 32 - 1 := by decide
  rw [h1, Nat.testBit_two_pow_sub_one]
  by_cases hi : i < 32
  · simp [hi]
  · have : a.testBit i = false := Nat.testBit_lt_two_pow (Nat.lt_of_lt_of_le ha (Nat.pow_le_pow_right (by decide) (by omega)))
    simp [this]
theorem nI_31 {k : Nat} (h : k < 32) : nI k &&& 31 = nI k := by
  rw [show (31 : Int32) = nI 31 from rfl, nI_and (by omega) (by decide)]
  congr 1
  rw [show 31 = 2 ^ 5 - 1 from rfl, Nat.and_two_pow_sub_one_eq_mod, Nat.mod_eq_of_lt h]
theorem nI_sm {k : Nat} (h : k < 32) : ((nI k).toBitVec.smod 32).toNat = k := by
  have : ∀ k : Fin 32, ((nI k.val).toBitVec.smod 32).toNat = k.val := by decide +kernel
  exact this ⟨k, h⟩
theorem nI_shl {k : Nat} (h : k < 31) : (1 : Int32) <<< (nI k &&& 31) = nI (2 ^ k) := by
  rw [nI_31 (by omega), show (1 : Int32) = nI 1 from rfl, pk_shlN (nI k) k (nI_sm (by omega)) (by rw [Nat.one_mul]; exact Nat.pow_lt_pow_right (by decide) (by omega)), Nat.one_mul]
theorem nI_shr {s k : Nat} (hs : s < 2 ^ 31) (h : k < 32) : nI s >>> (nI k &&& 31) = nI (s / 2 ^ k) := by
  rw [nI_31 h, pk_shrN hs (nI k) k (nI_sm h)]
theorem nI_has {s k : Nat} (hs : s < 2 ^ 31) (h : k < 32) : (nI s >>> (nI k &&& 31)) &&& 1 = bI (s.testBit k) := by
  rw [nI_shr hs h, show (1 : Int32) = nI 1 from rfl, nI_and (Nat.lt_of_le_of_lt (Nat.div_le_self _ _) (by omega)) (by decide), Nat.and_one_is_mod, Nat.testBit_eq_decide_div_mod_eq]
  rcases Nat.mod_two_eq_zero_or_one (s / 2 ^ k) with e | e <;> simp [e, bI] <;> rfl
theorem nI_set {a k : Nat} (ha : a < 2 ^ 31) (h : k < 31) : nI a ||| (1 <<< (nI k &&& 31)) = nI (a ||| 2 ^ k) := by
  rw [nI_shl h, nI_or (by omega) (Nat.pow_lt_pow_right (by decide) (by omega))]
theorem bit_set (a k i : Nat) : (a ||| 2 ^ k).testBit i = (a.testBit i || decide (k = i)) := by
  rw [Nat.testBit_or, Nat.testBit_two_pow]
theorem nI_inj {a b : Nat} (ha : a < 2 ^ 31) (hb : b < 2 ^ 31) (h : nI a = nI b) : a = b := (nI_eq ha hb).mp h
theorem nI_m9 {a : Nat} (ha : a < 2 ^ 31) : ¬ nI a = -9 := by
  intro h
  have := nI_toInt ha
  rw [h] at this
  have h2 : (-9 : Int32).toInt = -9 := by decide
  omega
theorem in_nI {j n : Nat} (h : j < n) (hn : n < 2 ^ 31) : ab_in (nI j) n := nI_in h hn
/-- the store -/
theorem wI_eq (σ : ab_St) (c : Nat) (f : Nat → Int32) : (ab_wI σ c f).1 c = f := by simp [ab_wI]
theorem wI_ne (σ : ab_St) {c k : Nat} (f : Nat → Int32) (h : k ≠ c) : (ab_wI σ c f).1 k = σ.1 k := by simp [ab_wI, h]
theorem wI_L (σ : ab_St) (c : Nat) (f : Nat → Int32) : (ab_wI σ c f).2 = σ.2 := rfl
theorem wL_eq (σ : ab_St) (c : Nat) (f : Nat → Int64) : (ab_wL σ c f).2 c = f := by simp [ab_wL]
theorem wL_ne (σ : ab_St) {c k : Nat} (f : Nat → Int64) (h : k ≠ c) : (ab_wL σ c f).2 k = σ.2 k := by simp [ab_wL, h]
theorem wL_I (σ : ab_St) (c : Nat) (f : Nat → Int64) : (ab_wL σ c f).1 = σ.1 := rfl
theorem ab_St.ext {σ τ : ab_St} (h1 : σ.1 = τ.1) (h2 : σ.2 = τ.2) : σ = τ := Prod.ext h1 h2
theorem wI_self (σ : ab_St) (c : Nat) : ab_wI σ c (σ.1 c) = σ := by
  refine Prod.ext (funext fun k => ?_) rfl
  by_cases h : k = c
  · subst h; simp [ab_wI]
  · simp [ab_wI, h]
theorem wI_wI (σ : ab_St) (c : Nat) (f g : Nat → Int32) : ab_wI (ab_wI σ c f) c g = ab_wI σ c g := by
  refine Prod.ext (funext fun k => ?_) rfl
  by_cases h : k = c
  · subst h; simp [ab_wI]
  · simp [ab_wI, h]
