/-! READING A TEXT -/
/-- the fault, and what was read, from the i-th byte on, k bytes being left -/
def prn (tx : Nat → Nat) (tn : Nat) : Nat → Nat → pS → Int32 × pS
  | 0, _, p => (if p.1 = 2 then -9 else nI tn, p)
  | k + 1, i, p => match pst p (tx i) with
    | none => (nI i, p)
    | some p2 => prn tx tn k (i + 1) p2
def p00 : pS := (0, (0, 0, fun _ => 0, fun _ => 0, fun _ => 0, fun _ => 0), fun _ => 0, 0, 0, 0)
theorem pI_00 : pI p00 := ⟨by decide, by decide, by decide, by omega, by omega, by decide, fun q hq => by omega, by omega, fun s hs => by omega, by omega, by omega, by omega, by decide, by decide, fun k hk => ⟨fun h => by simp at h, fun ⟨s, h, _⟩ => by omega⟩⟩
theorem prn_end {tx : Nat → Nat} {tn : Nat} : ∀ (k i : Nat) (p : pS), i + k ≤ 64 → tn ≤ 64 → pI p → (prn tx tn k i p).1 = -9 → pI (prn tx tn k i p).2 ∧ (prn tx tn k i p).2.1 = 2 := by
  intro k
  induction k with
  | zero =>
    intro i p hi ht hp h
    unfold prn at h ⊢
    dsimp only at h ⊢
    by_cases e : p.1 = 2
    · exact ⟨hp, e⟩
    · rw [if_neg e] at h
      exact absurd h (nI_m9 (by omega))
  | succ k ih =>
    intro i p hi ht hp h
    unfold prn at h ⊢
    cases hs : pst p (tx i) with
    | none =>
      rw [hs] at h
      exact absurd h (nI_m9 (by omega))
    | some p2 =>
      rw [hs] at h
      exact ih (i + 1) p2 (by omega) ht (pI_step hp hs) h
set_option maxHeartbeats 4000000 in
/-- Reader.begin -/
theorem c16 {d : Nat} {σ : ab_St} {Q : Option Value → ab_St → Prop} (hQ : ∀ τ, chR σ τ → RC τ p00 → Q none τ) : Ev (d + 1) 16 0 [some (.ref 3)] [] σ Q := by
  simp only [e16_0, e16_1, e16_4, e16_5, e16_8, e16_9, e16_12, e16_13, e16_16, e16_17, e16_20, e16_23, e16_24, e16_27, e16_28, e16_31, e16_32, e16_35, e16_36, e16_39, e16_40, e16_43, e16_44, e16_45, e16_48, e16_49, e16_50, e16_53, true_or, or_true, true_and, and_true, Option.toList, List.cons_append, List.nil_append, if_true, if_false, reduceIte, wI_get, upd_get, Nat.reduceEqDiff, reduceIte, if_true, if_false, sk3, sr3_0, sr3_1, sr9_0, sk4, sk9, c17 (c := 10) (n := 6) sk10 sn10 (by decide)]
  refine hQ _ ?_ ?_
  · have a1 : chR σ (ab_wI σ 4 (upd (σ.1 4) 4 0)) := chR_w (chR_rf σ) (by decide)
    have a2 := chR_w (c := 4) (g := upd (upd (σ.1 4) 4 0) 5 0) a1 (by decide)
    have a3 := chR_w (c := 10) (g := fun j => if j < 6 then 0 else σ.1 10 j) a2 (by decide)
    have a4 := chR_9 (k := 1) (x := 0) a3 (by decide)
    have a5 := chR_9 (k := 4) (x := 0) a4 (by decide)
    have a6 := chR_w (c := 3) (g := upd (σ.1 3) 3 0) a5 (by decide)
    have a7 := chR_w (c := 3) (g := upd (upd (σ.1 3) 3 0) 2 0) a6 (by decide)
    simp only [wI_get, upd_get, Nat.reduceEqDiff, reduceIte, if_true, if_false] at a7
    exact a7
  · refine ⟨?_, ?_, ?_, ?_, ?_, ?_, fun q hq => by omega, by omega, fun s hs => by omega, by omega, by omega, by omega⟩
    · simp only [wI_get, upd_get, Nat.reduceEqDiff, reduceIte, if_true, if_false]; rfl
    · simp only [wI_get, upd_get, Nat.reduceEqDiff, reduceIte, if_true, if_false]; rfl
    · simp only [wI_get, upd_get, Nat.reduceEqDiff, reduceIte, if_true, if_false]; rfl
    · simp only [wI_get, upd_get, Nat.reduceEqDiff, reduceIte, if_true, if_false]; rfl
    · simp only [wI_get, upd_get, Nat.reduceEqDiff, reduceIte, if_true, if_false]; rfl
    · simp only [wI_get, upd_get, Nat.reduceEqDiff, reduceIte, if_true, if_false]; rfl
set_option maxHeartbeats 4000000 in
/-- Reader.firstFault -/
theorem c15 {d tn : Nat} {tx : Nat → Nat} {σ : ab_St} {Q : Option Value → ab_St → Prop} (ht : tn ≤ 64) (v1 : σ.1 1 1 = nI tn) (v2 : ∀ j, j < tn → tx j < 256 ∧ σ.1 2 j = sb (tx j)) (hQ : ∀ τ, chR σ τ → ((prn tx tn tn 0 p00).1 = -9 → RC τ (prn tx tn tn 0 p00).2) → Q (some (.int (prn tx tn tn 0 p00).1)) τ) : Ev (d + 3) 15 0 [some (.ref 3), some (.ref 1), none] [] σ Q := by
  rw [e15_0, e15_1, sk3, eq_true (rfl : (2 : Nat) = 2), true_and]
  refine c16 (fun τ cτ rτ => ?_)
  simp only [true_or, or_true, true_and, and_true, Option.toList, List.cons_append, List.nil_append, if_true, if_false, reduceIte, e15_4, e15_5]
  have key : ∀ (k i : Nat) (p : pS) (τ : ab_St), i + k = tn → pI p → RC τ p → chR σ τ → (∀ υ, chR σ υ → ((prn tx tn k i p).1 = -9 → RC υ (prn tx tn k i p).2) → Q (some (.int (prn tx tn k i p).1)) υ) → Ev (d + 2 + 1) 15 6 [some (.ref 3), some (.ref 1), some (.int (nI i))] [] τ Q := by
    intro k
    induction k with
    | zero =>
      intro i p τ hi hp hr hc hq
      have q1 : τ.1 1 1 = nI tn := by rw [hc.1.1 1 (by decide)]; exact v1
      have hge : (nI tn ≤ nI i) = True := eq_true (nI_le (by omega) (by omega))
      obtain ⟨due, ⟨P, S, w, z, v, a⟩, f, th, lw, an⟩ := p
      have r1 : τ.1 3 2 = nI due := hr.1
      have e2 : (nI due = (2 : Int32)) = (due = 2) := propext (nI_eq (a := due) (b := 2) (by have := hp.1; omega) (by decide))
      rw [e15_6]
      simp only [e15_0, e15_1, e15_4, e15_5, e15_7, e15_8, e15_11, e15_14, e15_15, e15_16, e15_19, e15_20, e15_21, e15_24, e15_27, e15_28, e15_29, e15_32, e15_35, e15_36, e15_39, e15_40, e15_43, e15_45, e15_48, e15_49, e15_52, true_or, or_true, true_and, and_true, Option.toList, List.cons_append, List.nil_append, if_true, if_false, reduceIte, sk1, sk3, q1, hge, r1, e2]
      have := hq τ hc
      unfold prn at this
      dsimp only at this
      by_cases e : due = 2
      · rw [if_pos e]
        rw [if_pos e] at this
        exact this (fun _ => hr)
      · rw [if_neg e]
        rw [if_neg e] at this
        exact this (fun z => absurd z (nI_m9 (by omega)))
    | succ k ih =>
      intro i p τ hi hp hr hc hq
      have q1 : τ.1 1 1 = nI tn := by rw [hc.1.1 1 (by decide)]; exact v1
      have q2 : τ.1 2 i = sb (tx i) := by rw [hc.1.1 2 (by decide)]; exact (v2 i (by omega)).2
      have hge : (nI tn ≤ nI i) = False := eq_false (nI_ge (by omega) (by omega))
      rw [e15_6]
      simp only [e15_7, e15_8, e15_11, e15_14, e15_15, e15_16, e15_19, e15_20, e15_21, true_or, or_true, true_and, and_true, Option.toList, List.cons_append, List.nil_append, if_true, if_false, reduceIte, sk1, sk3, sr1_0, sk2, sn2, q1, hge, in_eq (j := i) (n := 64) (by omega) (by decide), nI_clamp (n := i) (by omega), q2, show ((101 : Nat) = 101 ∨ 101 = 102) = True from eq_true (Or.inl rfl)]
      refine c18 hp hr (v2 i (by omega)).1 (fun p2 hs υ cυ rυ => ?_) (fun hs υ cυ => ?_)
      · simp only [e15_0, e15_1, e15_4, e15_5, e15_7, e15_8, e15_11, e15_14, e15_15, e15_16, e15_19, e15_20, e15_21, e15_24, e15_27, e15_28, e15_29, e15_32, e15_35, e15_36, e15_39, e15_40, e15_43, e15_45, e15_48, e15_49, e15_52, true_or, or_true, true_and, and_true, Option.toList, List.cons_append, List.nil_append, if_true, if_false, reduceIte, nI_1, show ((1 : Int32) = 0) = False from eq_false (by decide)]
        refine ih (i + 1) p2 υ (by omega) (pI_step hp hs) rυ (chR_tr hc cυ) (fun ω cω rω => ?_)
        have := hq ω cω
        unfold prn at this
        rw [hs] at this
        exact this rω
      · simp only [e15_0, e15_1, e15_4, e15_5, e15_7, e15_8, e15_11, e15_14, e15_15, e15_16, e15_19, e15_20, e15_21, e15_24, e15_27, e15_28, e15_29, e15_32, e15_35, e15_36, e15_39, e15_40, e15_43, e15_45, e15_48, e15_49, e15_52, true_or, or_true, true_and, and_true, Option.toList, List.cons_append, List.nil_append, if_true, if_false, reduceIte]
        have := hq υ (chR_tr hc cυ)
        unfold prn at this
        rw [hs] at this
        exact this (fun z => absurd z (nI_m9 (by omega)))
  exact key tn 0 p00 τ (by omega) pI_00 rτ cτ hQ
