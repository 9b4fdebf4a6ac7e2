/-! THE READER -/
abbrev pS : Type := Nat × gT × (Nat → Nat) × Nat × Nat × Nat
def uN (g : Nat → Nat) (k v : Nat) : Nat → Nat := fun j => if j = k then v else g j
/-- one byte more -/
def pst (p : pS) (b : Nat) : Option pS := match p with
  | (due, (P, S, w, z, v, a), f, th, lw, an) =>
    if due = 0 then (if b = 81 then some (1, (P, S, w, z, v, a), f, th, lw, an) else none)
    else if due = 1 then (if 48 ≤ b ∧ b ≤ 50 then some (2, (P, S, w, z, v, a), f, th, b - 48, an) else none)
    else if due = 2 then (if b = 83 then (if S < 8 ∧ 0 < P then some (5, (P, S, w, z, v, a), f, th, lw, an) else none) else if P < 6 ∧ (b = 80 ∨ b = 65) then some (3, (P, S, w, z, v, a), f, (if b = 80 then th ||| 2 ^ P else th), lw, an) else none)
    else if due = 3 then (if 48 ≤ b ∧ b ≤ 57 then some (4, (P, S, w, z, v, a), uN f P (10 * (b - 48)), th, lw, an) else none)
    else if due = 4 then (if 48 ≤ b ∧ b ≤ 57 then some (2, (P + 1, S, w, z, v, a), uN f P (f P + (b - 48)), th, lw, an) else none)
    else if due = 5 then (if 48 ≤ b ∧ b - 48 < P then some (6, (P, S, uN w S (b - 48), z, v, a), f, th, lw, an) else none)
    else if due = 6 then (if 49 ≤ b ∧ b ≤ 57 then some (7, (P, S, w, uN z S (b - 48), v, a), f, th, lw, an) else none)
    else if due = 7 then (if 48 ≤ b ∧ b ≤ 57 then some (8, (P, S, w, z, uN v S (b - 48), a), f, th, lw, an) else none)
    else if b = 45 then some (2, (P, S + 1, w, z, v, upd a S (-9)), f, th, lw, an)
    else if 48 ≤ b ∧ b - 48 < S ∧ an.testBit (b - 48) = false then some (2, (P, S + 1, w, z, v, upd a S (nI (b - 48))), f, th, lw, an ||| 2 ^ (b - 48)) else none
/-- what holds of what was read -/
def pI (p : pS) : Prop := match p with
  | (due, (P, S, w, z, v, a), f, th, lw, an) => due ≤ 8 ∧ P ≤ 6 ∧ S ≤ 8 ∧ (due = 3 ∨ due = 4 → P < 6) ∧ (5 ≤ due → S < 8 ∧ 0 < P) ∧ (if due = 3 ∨ due = 4 then th < 2 ^ (P + 1) else th < 2 ^ P) ∧ (∀ q, q < P → f q ≤ 99) ∧ (due = 4 → f P ≤ 90) ∧
    (∀ s, s < S → w s < P ∧ 1 ≤ z s ∧ z s ≤ 9 ∧ v s ≤ 9 ∧ (a s = -9 ∨ ∃ k, k < s ∧ a s = nI k)) ∧ (6 ≤ due → w S < P) ∧ (7 ≤ due → 1 ≤ z S ∧ z S ≤ 9) ∧ (8 ≤ due → v S ≤ 9) ∧ lw < 3 ∧ an < 2 ^ S ∧ ∀ k, k < 8 → (an.testBit k = true ↔ ∃ s, s < S ∧ a s = nI k)
theorem uN_eq (g : Nat → Nat) (k v : Nat) : uN g k v k = v := if_pos rfl
theorem uN_ne (g : Nat → Nat) {k j : Nat} (v : Nat) (h : j ≠ k) : uN g k v j = g j := if_neg h
theorem lt_up {a n : Nat} (h : a < 2 ^ n) : a < 2 ^ (n + 1) := Nat.lt_of_lt_of_le h (Nat.pow_le_pow_right (by decide) (by omega))
set_option maxHeartbeats 4000000 in
theorem pI_step {p p2 : pS} {b : Nat} (h : pI p) (hs : pst p b = some p2) : pI p2 := by
  obtain ⟨due, ⟨P, S, w, z, v, a⟩, f, th, lw, an⟩ := p
  unfold pI at h
  obtain ⟨h1, h2, h3, h4, h5, h6, h7, h8, h9, h10, h11, h12, h13, h14, h15⟩ := h
  unfold pst at hs
  simp only at hs
  by_cases d0 : due = 0
  · subst d0
    rw [if_pos rfl] at hs
    split at hs
    · cases hs
      exact ⟨by decide, h2, h3, by omega, by omega, by rw [if_neg (by omega)] at h6 ⊢; exact h6, h7, by omega, h9, by omega, by omega, by omega, h13, h14, h15⟩
    · cases hs
  rw [if_neg d0] at hs
  by_cases d1 : due = 1
  · subst d1
    rw [if_pos rfl] at hs
    split at hs
    · cases hs
      exact ⟨by decide, h2, h3, by omega, by omega, by rw [if_neg (by omega)] at h6 ⊢; exact h6, h7, by omega, h9, by omega, by omega, by omega, by omega, h14, h15⟩
    · cases hs
  rw [if_neg d1] at hs
  by_cases d2 : due = 2
  · subst d2
    rw [if_pos rfl] at hs
    rw [if_neg (by omega)] at h6
    split at hs
    · split at hs
      next hc =>
        cases hs
        exact ⟨by decide, h2, h3, by omega, fun _ => ⟨hc.1, hc.2⟩, by rw [if_neg (by omega)]; exact h6, h7, by omega, h9, by omega, by omega, by omega, h13, h14, h15⟩
      next => cases hs
    · split at hs
      next hc =>
        cases hs
        refine ⟨by decide, h2, h3, fun _ => hc.1, by omega, ?_, h7, by omega, h9, by omega, by omega, by omega, h13, h14, h15⟩
        rw [if_pos (Or.inl rfl)]
        split
        · exact bit_new (lt_up h6) (by omega)
        · exact lt_up h6
      next => cases hs
  rw [if_neg d2] at hs
  by_cases d3 : due = 3
  · subst d3
    rw [if_pos rfl] at hs
    rw [if_pos (Or.inl rfl)] at h6
    have hP := h4 (Or.inl rfl)
    split at hs
    · cases hs
      refine ⟨by decide, h2, h3, fun _ => hP, by omega, by rw [if_pos (Or.inr rfl)]; exact h6, fun q hq => by rw [uN_ne _ _ (by omega)]; exact h7 q hq, fun _ => by rw [uN_eq]; omega, h9, by omega, by omega, by omega, h13, h14, h15⟩
    · cases hs
  rw [if_neg d3] at hs
  by_cases d4 : due = 4
  · subst d4
    rw [if_pos rfl] at hs
    rw [if_pos (Or.inr rfl)] at h6
    have hP := h4 (Or.inr rfl)
    have hf := h8 rfl
    split at hs
    · cases hs
      refine ⟨by decide, by omega, h3, by omega, by omega, by rw [if_neg (by omega)]; exact h6, fun q hq => ?_, by omega, fun s hs2 => ⟨by have := (h9 s hs2).1; omega, (h9 s hs2).2⟩, by omega, by omega, by omega, h13, h14, h15⟩
      by_cases e : q = P
      · subst e; rw [uN_eq]; omega
      · rw [uN_ne _ _ e]; exact h7 q (by omega)
    · cases hs
  rw [if_neg d4] at hs
  rw [if_neg (by omega)] at h6
  have hS := h5 (by omega)
  by_cases d5 : due = 5
  · subst d5
    rw [if_pos rfl] at hs
    split at hs
    next hc =>
      cases hs
      refine ⟨by decide, h2, h3, by omega, fun _ => hS, by rw [if_neg (by omega)]; exact h6, h7, by omega, fun s hs2 => by rw [uN_ne _ _ (by omega)]; exact h9 s hs2, fun _ => by rw [uN_eq]; exact hc.2, by omega, by omega, h13, h14, h15⟩
    next => cases hs
  rw [if_neg d5] at hs
  have hw := h10 (by omega)
  by_cases d6 : due = 6
  · subst d6
    rw [if_pos rfl] at hs
    split at hs
    next hc =>
      cases hs
      refine ⟨by decide, h2, h3, by omega, fun _ => hS, by rw [if_neg (by omega)]; exact h6, h7, by omega, fun s hs2 => by rw [uN_ne _ _ (by omega)]; exact h9 s hs2, fun _ => hw, fun _ => by rw [uN_eq]; omega, by omega, h13, h14, h15⟩
    next => cases hs
  rw [if_neg d6] at hs
  have hz := h11 (by omega)
  by_cases d7 : due = 7
  · subst d7
    rw [if_pos rfl] at hs
    split at hs
    next hc =>
      cases hs
      refine ⟨by decide, h2, h3, by omega, fun _ => hS, by rw [if_neg (by omega)]; exact h6, h7, by omega, fun s hs2 => by rw [uN_ne _ _ (by omega)]; exact h9 s hs2, fun _ => hw, fun _ => hz, fun _ => by rw [uN_eq]; omega, h13, h14, h15⟩
    next => cases hs
  rw [if_neg d7] at hs
  have hv := h12 (by omega)
  have hle : S + 1 ≤ 8 := by omega
  split at hs
  · cases hs
    refine ⟨by decide, h2, hle, by omega, by omega, by rw [if_neg (by omega)]; exact h6, h7, by omega, fun s hs2 => ?_, by omega, by omega, by omega, h13, lt_up h14, fun k hk => ?_⟩
    · by_cases e : s = S
      · subst e; exact ⟨hw, hz.1, hz.2, hv, Or.inl (upd_eq _ _ _)⟩
      · rw [upd_ne _ _ e]; exact h9 s (by omega)
    · rw [h15 k hk]
      constructor
      · rintro ⟨s, q1, q2⟩
        exact ⟨s, by omega, by rw [upd_ne _ _ (by omega)]; exact q2⟩
      · rintro ⟨s, q1, q2⟩
        by_cases e : s = S
        · subst e
          rw [upd_eq] at q2
          exact absurd q2.symm (nI_m9 (by omega))
        · rw [upd_ne _ _ e] at q2
          exact ⟨s, by omega, q2⟩
  · split at hs
    next hc =>
      cases hs
      refine ⟨by decide, h2, hle, by omega, by omega, by rw [if_neg (by omega)]; exact h6, h7, by omega, fun s hs2 => ?_, by omega, by omega, by omega, h13, bit_new (lt_up h14) (by omega), fun k hk => ?_⟩
      · by_cases e : s = S
        · subst e; exact ⟨hw, hz.1, hz.2, hv, Or.inr ⟨b - 48, hc.2.1, upd_eq _ _ _⟩⟩
        · rw [upd_ne _ _ e]; exact h9 s (by omega)
      · rw [bit_set, Bool.or_eq_true, h15 k hk, decide_eq_true_eq]
        constructor
        · rintro (⟨s, q1, q2⟩ | q)
          · exact ⟨s, by omega, by rw [upd_ne _ _ (by omega)]; exact q2⟩
          · exact ⟨S, by omega, by rw [upd_eq, q]⟩
        · rintro ⟨s, q1, q2⟩
          by_cases e : s = S
          · subst e
            rw [upd_eq] at q2
            exact Or.inr (nI_inj (by omega) (by omega) q2)
          · rw [upd_ne _ _ e] at q2
            exact Or.inl ⟨s, by omega, q2⟩
    next => cases hs
/-- the byte as the class reads it -/
def sb (b : Nat) : Int32 := (nI b).toInt8.toInt32
theorem sb_dig : ∀ b : Fin 256, 48 ≤ b.val → b.val ≤ 57 → sb b.val - 48 = nI (b.val - 48) := by decide +kernel
theorem sb_no : ∀ b : Fin 256, ¬ (48 ≤ b.val ∧ b.val ≤ 57) → (sb b.val - 48).toInt < 0 ∨ 9 < (sb b.val - 48).toInt := by decide +kernel
theorem sb_81 : ∀ b : Fin 256, sb b.val = 81 ↔ b.val = 81 := by decide +kernel
theorem sb_83 : ∀ b : Fin 256, sb b.val = 83 ↔ b.val = 83 := by decide +kernel
theorem sb_80 : ∀ b : Fin 256, sb b.val = 80 ↔ b.val = 80 := by decide +kernel
theorem sb_65 : ∀ b : Fin 256, sb b.val = 65 ↔ b.val = 65 := by decide +kernel
theorem sb_45 : ∀ b : Fin 256, sb b.val = 45 ↔ b.val = 45 := by decide +kernel
/-- the class' reader holds p -/
def RC (σ : ab_St) (p : pS) : Prop := match p with
  | (due, (P, S, w, z, v, a), f, th, lw, an) => σ.1 3 2 = nI due ∧ σ.1 3 3 = nI an ∧ σ.1 4 4 = nI P ∧ σ.1 4 5 = nI S ∧ σ.1 9 1 = nI th ∧ σ.1 9 4 = nI lw ∧ (∀ q, q < P → σ.1 10 q = nI (f q)) ∧ (due = 4 → σ.1 10 P = nI (f P)) ∧ (∀ s, s < S → σ.1 5 s = nI (w s) ∧ σ.1 6 s = nI (z s) ∧ σ.1 7 s = nI (v s) ∧ σ.1 8 s = a s) ∧ (6 ≤ due → σ.1 5 S = nI (w S)) ∧ (7 ≤ due → σ.1 6 S = nI (z S)) ∧ (8 ≤ due → σ.1 7 S = nI (v S))
/-- only the reader's cells are changed, and of its state neither what was said nor which last -/
def chR (σ τ : ab_St) : Prop := ch [3, 4, 5, 6, 7, 8, 9, 10] σ τ ∧ τ.1 9 2 = σ.1 9 2 ∧ τ.1 9 3 = σ.1 9 3
theorem chR_rf (σ : ab_St) : chR σ σ := ⟨ch_rf _ σ, rfl, rfl⟩
theorem chR_tr {σ τ υ : ab_St} (h : chR σ τ) (h2 : chR τ υ) : chR σ υ := ⟨ch_tr h.1 h2.1, h2.2.1.trans h.2.1, h2.2.2.trans h.2.2⟩
theorem chR_w {σ τ : ab_St} {c : Nat} {g : Nat → Int32} (h : chR σ τ) (hc : c ∈ [3, 4, 5, 6, 7, 8, 10]) : chR σ (ab_wI τ c g) := by
  have hc9 : 9 ≠ c := fun e => by rw [← e] at hc; revert hc; decide
  refine ⟨ch_w h.1 (by revert c; decide), ?_, ?_⟩
  · rw [wI_ne τ g hc9]; exact h.2.1
  · rw [wI_ne τ g hc9]; exact h.2.2
theorem chR_9 {σ τ : ab_St} {k : Nat} {x : Int32} (h : chR σ τ) (hk : k ≠ 2 ∧ k ≠ 3) : chR σ (ab_wI τ 9 (upd (τ.1 9) k x)) := by
  refine ⟨ch_w h.1 (by decide), ?_, ?_⟩
  · rw [wI_eq, upd_ne _ _ (fun e => hk.1 e.symm)]; exact h.2.1
  · rw [wI_eq, upd_ne _ _ (fun e => hk.2 e.symm)]; exact h.2.2
