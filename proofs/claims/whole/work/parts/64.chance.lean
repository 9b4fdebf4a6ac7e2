/-! CHANCE -/
/-- the words behind a turn of c words -/
def adv (th : Nat) (g : Nat → Nat) (c : Nat) : Nat → Nat := fun q => if q < 6 ∧ nI q = fst6 (lst th g) 0 6 then g q + c else g q
/-- the words behind j turns -/
def pf (th : Nat) (f : Nat → Nat) (b : Nat → Nat) : Nat → Nat → Nat
  | 0 => f
  | j + 1 => adv th (pf th f b j) (b j)
theorem pf_c {th : Nat} {f : Nat → Nat} {b b' : Nat → Nat} : ∀ N, (∀ j, j < N → b j = b' j) → pf th f b N = pf th f b' N := by
  intro N
  induction N with
  | zero => intro _; rfl
  | succ N ih => intro h; unfold pf; rw [ih (fun j hj => h j (by omega)), h N (by omega)]
theorem adv_le (th : Nat) (g : Nat → Nat) (c q : Nat) : adv th g c q ≤ g q + c := by unfold adv; split <;> omega
theorem pf_le {th : Nat} {f : Nat → Nat} {b : Nat → Nat} (hb : ∀ j, b j ≤ 2) : ∀ (N q : Nat), pf th f b N q ≤ f q + 2 * N := by
  intro N
  induction N with
  | zero => intro q; exact Nat.le_refl _
  | succ N ih =>
    intro q
    have h1 := adv_le th (pf th f b N) (b N) q
    have h2 := ih q
    have h3 := hb N
    show adv th (pf th f b N) (b N) q ≤ _
    omega
theorem adv_no {th : Nat} {g : Nat → Nat} {c : Nat} (h : fst6 (lst th g) 0 6 = -9) : adv th g c = g := by
  funext q
  unfold adv
  rw [h]
  by_cases hq : q < 6
  · rw [if_neg (fun z => nI_m9 (by omega) z.2)]
  · rw [if_neg (fun z => hq z.1)]
theorem adv_at {th : Nat} {g : Nat → Nat} {c o : Nat} (ho : o < 6) (h : fst6 (lst th g) 0 6 = nI o) (q : Nat) : adv th g c q = if q = o then g o + c else g q := by
  unfold adv
  rw [h]
  by_cases e : q = o
  · subst e; rw [if_pos ⟨ho, rfl⟩, if_pos rfl]
  · rw [if_neg e, if_neg (fun z => e (nI_inj (by omega) (by omega) z.2))]
/-- the first of a set, or none -/
theorem fst_or {s : Nat} (hs : s < 64) : (s = 0 ∧ fst6 s 0 6 = -9) ∨ ∃ o, o < 6 ∧ s.testBit o = true ∧ fst6 s 0 6 = nI o ∧ ∀ q, q < o → s.testBit q = false := by
  by_cases h0 : s = 0
  · left; subst h0; exact ⟨rfl, rfl⟩
  · right
    have key : ∀ (k i : Nat), i + k = 6 → (∀ q, q < i → s.testBit q = false) → ∃ o, o < 6 ∧ s.testBit o = true ∧ fst6 s i k = nI o ∧ ∀ q, q < o → s.testBit q = false := by
      intro k
      induction k with
      | zero =>
        intro i hi hq
        exfalso
        apply h0
        apply bits_ext
        intro j
        rw [Nat.zero_testBit]
        by_cases hj : j < 6
        · exact hq j (by omega)
        · cases hb : s.testBit j
          · rfl
          · have := bit_lt (n := 6) hs hb; omega
      | succ k ih =>
        intro i hi hq
        unfold fst6
        cases hb : s.testBit i
        · rw [if_neg (by decide)]
          exact ih (i + 1) (by omega) (fun q h => by
            by_cases e : q = i
            · rw [e]; exact hb
            · exact hq q (by omega))
        · rw [if_pos rfl]
          exact ⟨i, by omega, hb, rfl, hq⟩
    exact key 6 0 rfl (fun q h => by omega)
def bP (m : Nat) (j : Nat) : Nat := if m.testBit j = true then 2 else 1
theorem bP_le (m j : Nat) : bP m j ≤ 2 := by unfold bP; split <;> omega
def wt (x m : Nat) (N : Nat) : Nat := itn (fun j a => a * (if m.testBit j = true then 10 - x else x)) N 1
theorem wt_s (x m N : Nat) : wt x m (N + 1) = wt x m N * (if m.testBit N = true then 10 - x else x) := rfl
theorem wt_le {x m : Nat} (hx : x ≤ 10) : ∀ N, wt x m N ≤ 10 ^ N := by
  intro N
  induction N with
  | zero => exact Nat.le_refl _
  | succ N ih =>
    rw [wt_s, Nat.pow_succ]
    exact Nat.mul_le_mul ih (by split <;> omega)
/-- one way's part of the sum -/
def Fc (th : Nat) (f : Nat → Nat) (p N x m : Nat) : Nat := if (lst th (pf th f (bP m) N)).testBit p = true then wt x m N else 0
def sN (F : Nat → Nat) (n : Nat) : Nat := itn (fun i a => a + F i) n 0
theorem sN_s (F : Nat → Nat) (n : Nat) : sN F (n + 1) = sN F n + F n := rfl
theorem sN_le {F : Nat → Nat} {B : Nat} : ∀ n, (∀ i, i < n → F i ≤ B) → sN F n ≤ n * B := by
  intro n
  induction n with
  | zero => intro _; exact Nat.zero_le _
  | succ n ih =>
    intro h
    rw [sN_s, Nat.succ_mul]
    have h1 := ih (fun i hi => h i (by omega))
    have h2 := h n (by omega)
    omega
theorem sN_0 (F : Nat → Nat) (n : Nat) : sN F (n + 1) = F 0 + sN (fun i => F (i + 1)) n := by
  induction n with
  | zero => show 0 + F 0 = F 0 + 0; omega
  | succ n ih => rw [sN_s, ih, sN_s]; omega
theorem sN_rev (F : Nat → Nat) : ∀ n, sN (fun i => F (n - 1 - i)) n = sN F n := by
  intro n
  induction n with
  | zero => rfl
  | succ n ih =>
    rw [sN_0, sN_s, ← ih]
    have e : ∀ m, m ≤ n → sN (fun i => F (n + 1 - 1 - (i + 1))) m = sN (fun i => F (n - 1 - i)) m := by
      intro m
      induction m with
      | zero => intro _; rfl
      | succ m ihm => intro hm; rw [sN_s, sN_s, ihm (by omega), show n + 1 - 1 - (m + 1) = n - 1 - m by omega]
    rw [e n (Nat.le_refl _), show n + 1 - 1 - 0 = n by omega]
    omega
/-- cancelling -/
def cn1 (a : Nat × Nat) : Nat × Nat := if a.1 % 2 = 0 ∧ a.2 % 2 = 0 then (a.1 / 2, a.2 / 2) else a
def cn2 (a : Nat × Nat) : Nat × Nat := if a.1 % 5 = 0 ∧ a.2 % 5 = 0 then (a.1 / 5, a.2 / 5) else a
def cn (N : Nat) (a : Nat × Nat) : Nat × Nat := itn (fun _ a => cn2 (cn1 a)) N a
theorem cn_s (N : Nat) (a : Nat × Nat) : cn (N + 1) a = cn2 (cn1 (cn N a)) := rfl
theorem pow_div {q a : Nat} (hq : 1 < q) : q ^ a % q = 0 ↔ 0 < a := by
  cases a with
  | zero => rw [Nat.pow_zero, Nat.mod_eq_of_lt hq]; omega
  | succ a => rw [Nat.pow_succ, Nat.mul_mod_left]; omega
theorem cn_inv (U N : Nat) : ∀ j, j ≤ N → ∃ a b g, (cn j (U, 10 ^ N)).2 = 2 ^ a * 5 ^ b ∧ a ≤ N ∧ b ≤ N ∧ (cn j (U, 10 ^ N)).1 * g = U ∧ (cn j (U, 10 ^ N)).2 * g = 10 ^ N ∧ ((cn j (U, 10 ^ N)).1 % 2 = 0 → a ≤ N - j) ∧ ((cn j (U, 10 ^ N)).1 % 5 = 0 → b ≤ N - j) := by
  intro j
  induction j with
  | zero => intro _; exact ⟨N, N, 1, by show 10 ^ N = _; rw [← Nat.mul_pow], Nat.le_refl _, Nat.le_refl _, Nat.mul_one _, Nat.mul_one _, fun _ => by omega, fun _ => by omega⟩
  | succ j ih =>
    intro hj
    obtain ⟨a, b, g, h1, h2, h3, h4, h5, h6, h7⟩ := ih (by omega)
    rw [cn_s]
    generalize cn j (U, 10 ^ N) = r at h1 h4 h5 h6 h7
    obtain ⟨u, l⟩ := r
    dsimp only at h1 h4 h5 h6 h7
    -- by two
    have s1 : ∃ a g, (cn1 (u, l)).2 = 2 ^ a * 5 ^ b ∧ a ≤ N ∧ (cn1 (u, l)).1 * g = U ∧ (cn1 (u, l)).2 * g = 10 ^ N ∧ ((cn1 (u, l)).1 % 2 = 0 → a ≤ N - (j + 1)) ∧ ((cn1 (u, l)).1 % 5 = 0 → b ≤ N - j) := by
      unfold cn1
      dsimp only
      by_cases hc : u % 2 = 0 ∧ l % 2 = 0
      · rw [if_pos hc]
        dsimp only
        have ha : 0 < a := by
          apply Classical.byContradiction
          intro hn
          have : a = 0 := by omega
          subst this
          have hl := hc.2
          rw [h1, Nat.pow_zero, Nat.one_mul, Nat.pow_mod] at hl
          rw [show 5 % 2 = 1 from rfl, Nat.one_pow] at hl
          exact absurd hl (by decide)
        obtain ⟨a', rfl⟩ : ∃ a', a = a' + 1 := ⟨a - 1, by omega⟩
        have eu : u / 2 * 2 = u := Nat.div_mul_cancel (Nat.dvd_of_mod_eq_zero hc.1)
        have el : l / 2 * 2 = l := Nat.div_mul_cancel (Nat.dvd_of_mod_eq_zero hc.2)
        refine ⟨a', 2 * g, ?_, by omega, by rw [← Nat.mul_assoc, eu]; exact h4, by rw [← Nat.mul_assoc, el]; exact h5, fun _ => by have := h6 hc.1; omega, fun h5m => h7 ?_⟩
        · rw [h1, Nat.pow_succ, Nat.mul_right_comm, Nat.mul_div_cancel _ (by decide)]
        · omega
      · rw [if_neg hc]
        refine ⟨a, g, h1, h2, h4, h5, fun hu => ?_, h7⟩
        by_cases ha : 0 < a
        · exfalso
          apply hc
          refine ⟨hu, ?_⟩
          rw [h1, Nat.mul_mod, (pow_div (by decide)).mpr ha, Nat.zero_mul]
        · omega
    obtain ⟨a, g, h1, h2, h4, h5, h6, h7⟩ := s1
    generalize cn1 (u, l) = r at h1 h4 h5 h6 h7
    obtain ⟨u, l⟩ := r
    dsimp only at h1 h4 h5 h6 h7
    unfold cn2
    dsimp only
    by_cases hc : u % 5 = 0 ∧ l % 5 = 0
    · rw [if_pos hc]
      dsimp only
      have hb : 0 < b := by
        apply Classical.byContradiction
        intro hn
        have : b = 0 := by omega
        subst this
        have hl := hc.2
        rw [h1, Nat.pow_zero, Nat.mul_one] at hl
        have hd : 5 ∣ 2 ^ a := Nat.dvd_of_mod_eq_zero hl
        have hcop : Nat.Coprime 5 (2 ^ a) := Nat.Coprime.pow_right a (by decide)
        have := Nat.Coprime.eq_one_of_dvd hcop hd
        exact absurd this (by decide)
      obtain ⟨b', rfl⟩ : ∃ b', b = b' + 1 := ⟨b - 1, by omega⟩
      have eu : u / 5 * 5 = u := Nat.div_mul_cancel (Nat.dvd_of_mod_eq_zero hc.1)
      have el : l / 5 * 5 = l := Nat.div_mul_cancel (Nat.dvd_of_mod_eq_zero hc.2)
      refine ⟨a, b', 5 * g, ?_, h2, by omega, by rw [← Nat.mul_assoc, eu]; exact h4, by rw [← Nat.mul_assoc, el]; exact h5, fun h2m => h6 (by omega), fun _ => by have := h7 hc.1; omega⟩
      rw [h1, Nat.pow_succ, ← Nat.mul_assoc, Nat.mul_div_cancel _ (by decide)]
    · rw [if_neg hc]
      refine ⟨a, b, g, h1, h2, h3, h4, h5, h6, fun hu => ?_⟩
      by_cases hb : 0 < b
      · exfalso
        apply hc
        refine ⟨hu, ?_⟩
        rw [h1, Nat.mul_mod, (pow_div (by decide)).mpr hb, Nat.mul_zero]
      · omega
theorem cop2 {u : Nat} (h : ¬ u % 2 = 0) : Nat.Coprime u 2 := by
  have h1 : Nat.gcd u 2 ∣ 2 := Nat.gcd_dvd_right u 2
  have h2 : Nat.gcd u 2 ∣ u := Nat.gcd_dvd_left u 2
  have h3 : Nat.gcd u 2 ≤ 2 := Nat.le_of_dvd (by decide) h1
  have h4 : 0 < Nat.gcd u 2 := Nat.gcd_pos_of_pos_right u (by decide)
  by_cases e : Nat.gcd u 2 = 2
  · rw [e] at h2
    exact absurd (Nat.mod_eq_zero_of_dvd h2) h
  · show Nat.gcd u 2 = 1
    omega
theorem cop5 {u : Nat} (h : ¬ u % 5 = 0) : Nat.Coprime u 5 := by
  have h1 : Nat.gcd u 5 ∣ 5 := Nat.gcd_dvd_right u 5
  have h2 : Nat.gcd u 5 ∣ u := Nat.gcd_dvd_left u 5
  have h3 : Nat.gcd u 5 ≤ 5 := Nat.le_of_dvd (by decide) h1
  have h4 : 0 < Nat.gcd u 5 := Nat.gcd_pos_of_pos_right u (by decide)
  have h5 := Nat.mod_eq_zero_of_dvd h1
  show Nat.gcd u 5 = 1
  generalize hg : Nat.gcd u 5 = g at *
  by_cases e : g = 5
  · rw [e] at h2
    exact absurd (Nat.mod_eq_zero_of_dvd h2) h
  · have : g = 1 ∨ g = 2 ∨ g = 3 ∨ g = 4 := by omega
    rcases this with rfl | rfl | rfl | rfl
    · rfl
    · exact absurd h5 (by decide)
    · exact absurd h5 (by decide)
    · exact absurd h5 (by decide)
theorem cn_gcd (U N : Nat) : cn N (U, 10 ^ N) = (U / Nat.gcd U (10 ^ N), 10 ^ N / Nat.gcd U (10 ^ N)) := by
  obtain ⟨a, b, g, h1, h2, h3, h4, h5, h6, h7⟩ := cn_inv U N N (Nat.le_refl _)
  generalize cn N (U, 10 ^ N) = r at h1 h4 h5 h6 h7
  obtain ⟨u, l⟩ := r
  dsimp only at h1 h4 h5 h6 h7
  have hp : 0 < 10 ^ N := Nat.pow_pos (by decide)
  have hg : 0 < g := by
    apply Classical.byContradiction
    intro hn
    have : g = 0 := by omega
    rw [this, Nat.mul_zero] at h5
    omega
  have c2 : Nat.Coprime u (2 ^ a) := by
    by_cases h : u % 2 = 0
    · have := h6 h
      rw [show a = 0 by omega, Nat.pow_zero]
      exact Nat.coprime_one_right u
    · exact Nat.Coprime.pow_right a (cop2 h)
  have c5 : Nat.Coprime u (5 ^ b) := by
    by_cases h : u % 5 = 0
    · have := h7 h
      rw [show b = 0 by omega, Nat.pow_zero]
      exact Nat.coprime_one_right u
    · exact Nat.Coprime.pow_right b (cop5 h)
  have cl : Nat.gcd u l = 1 := by rw [h1]; exact Nat.Coprime.mul_right c2 c5
  have hgcd : Nat.gcd U (10 ^ N) = g := by rw [← h4, ← h5, Nat.gcd_mul_right, cl, Nat.one_mul]
  rw [hgcd, ← h5]
  conv => rhs; rw [← h4]
  rw [Nat.mul_div_cancel _ hg, Nat.mul_div_cancel _ hg]
