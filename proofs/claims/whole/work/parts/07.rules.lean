/-! RULES OF THE SMALL MACHINE, as equations between statements -/
set_option maxHeartbeats 4000000 in
theorem ab_more1 : ∀ (n d M pc : Nat) (ls : ab_Lo) (st : List Value) (σ : ab_St) (x : Option Value × ab_St), ab_run n d M pc ls st σ = some x → ab_run (n + 1) d M pc ls st σ = some x := by
  intro n
  induction n with
  | zero => intro d M pc ls st σ x h; cases h
  | succ n ih =>
    intro d M pc ls st σ x h
    rw [ab_run] at h
    rw [show ab_run (n + 1 + 1) d M pc ls st σ = _ from by rw [ab_run]]
    split at h
    next => cases h
    next i len hdg =>
      try simp only [hdg]
      split at h
      next st' hs => exact ih _ _ _ _ _ _ _ h
      next hs =>
      try simp only [hs]
      split at h
      next st' hs => exact ih _ _ _ _ _ _ _ h
      next hs =>
      try simp only [hs]
      split at h
      next st' hs => exact ih _ _ _ _ _ _ _ h
      next hs =>
      try simp only [hs]
      split at h
      next q hs => exact ih _ _ _ _ _ _ _ h
      next hs =>
      try simp only [hs]
      split at h
      next q hs => exact ih _ _ _ _ _ _ _ h
      next hs =>
      try simp only [hs]
      split at h
      next q hs => exact ih _ _ _ _ _ _ _ h
      next hs =>
      try simp only [hs]
      split at h
      next r hs => exact h
      next hs =>
      try simp only [hs]
      split at h
      next q d' hs _ _ =>
        try simp only [hs]
        split at h
        next w hw =>
          rw [ih _ _ _ _ _ _ _ hw]
          try simp only []
          exact ih _ _ _ _ _ _ _ h
        next => cases h
      next => cases h
theorem ab_more {n k d M pc : Nat} {ls : ab_Lo} {st : List Value} {σ : ab_St} {x : Option Value × ab_St} (h : ab_run n d M pc ls st σ = some x) : ab_run (n + k) d M pc ls st σ = some x := by
  induction k with
  | zero => exact h
  | succ k ih => exact ab_more1 _ _ _ _ _ _ _ _ ih
def Ev (d M pc : Nat) (ls : ab_Lo) (st : List Value) (σ : ab_St) (Q : Option Value → ab_St → Prop) : Prop := ∃ (n : Nat) (r : Option Value) (σ' : ab_St), ab_run n d M pc ls st σ = some (r, σ') ∧ Q r σ'
theorem Ev.mono {d M pc : Nat} {ls : ab_Lo} {st : List Value} {σ : ab_St} {P Q : Option Value → ab_St → Prop} (h : Ev d M pc ls st σ P) (hq : ∀ r σ', P r σ' → Q r σ') : Ev d M pc ls st σ Q := by
  obtain ⟨n, r, σ', h1, h2⟩ := h
  exact ⟨n, r, σ', h1, hq r σ' h2⟩
section EV
variable {d M pc : Nat} {ls : ab_Lo} {st : List Value} {σ : ab_St} {Q : Option Value → ab_St → Prop}
theorem ev_go {d' M' pc' : Nat} {ls' : ab_Lo} {st' : List Value} {σ' : ab_St} (h : ∀ n, ab_run (n + 1) d M pc ls st σ = ab_run n d' M' pc' ls' st' σ') : Ev d M pc ls st σ Q = Ev d' M' pc' ls' st' σ' Q := by
  apply propext
  constructor
  · rintro ⟨n, r, τ, h1, h2⟩
    cases n with
    | zero => cases h1
    | succ n => exact ⟨n, r, τ, by rw [← h n]; exact h1, h2⟩
  · rintro ⟨n, r, τ, h1, h2⟩
    exact ⟨n + 1, r, τ, by rw [h n]; exact h1, h2⟩
theorem ev_stuck (h : ∀ n, ab_run (n + 1) d M pc ls st σ = none) : Ev d M pc ls st σ Q = False := by
  apply propext
  constructor
  · rintro ⟨n, r, τ, h1, h2⟩
    cases n with
    | zero => cases h1
    | succ n => rw [h n] at h1; cases h1
  · exact False.elim
theorem ev_and {c : Prop} [Decidable c] {d' M' pc' : Nat} {ls' : ab_Lo} {st' : List Value} {σ' : ab_St} (h : ∀ n, ab_run (n + 1) d M pc ls st σ = if c then ab_run n d' M' pc' ls' st' σ' else none) : Ev d M pc ls st σ Q = (c ∧ Ev d' M' pc' ls' st' σ' Q) := by
  by_cases hc : c
  · rw [ev_go (fun n => by rw [h n, if_pos hc]), eq_true hc, true_and]
  · rw [ev_stuck (fun n => by rw [h n, if_neg hc]), eq_false hc, false_and]
variable {i : Instr} {len : Nat} {st' : List Value}
theorem ev_A1 (hd : decode (ab_C M) pc = .ok (i, len)) (h : ab_A1 M i len ls st = some st') : Ev d M pc ls st σ Q = Ev d M (pc + len) ls st' σ Q :=
  ev_go (fun n => by rw [ab_run]; simp only [hd, h])
theorem ev_A2 (hd : decode (ab_C M) pc = .ok (i, len)) (h1 : ab_A1 M i len ls st = none) (h : ab_A2 i len st = some st') : Ev d M pc ls st σ Q = Ev d M (pc + len) ls st' σ Q :=
  ev_go (fun n => by rw [ab_run]; simp only [hd, h, h1])
theorem ev_S {ls' : ab_Lo} (hd : decode (ab_C M) pc = .ok (i, len)) (h1 : ab_A1 M i len ls st = none) (h2 : ab_A2 i len st = none) (h3 : ab_X d M i len st = none) (h : ab_S i len ls st = some (ls', st')) : Ev d M pc ls st σ Q = Ev d M (pc + len) ls' st' σ Q :=
  ev_go (fun n => by rw [ab_run]; simp only [hd, h, h1, h2, h3])
theorem ev_J {pc' : Nat} (hd : decode (ab_C M) pc = .ok (i, len)) (h1 : ab_A1 M i len ls st = none) (h2 : ab_A2 i len st = none) (h3 : ab_X d M i len st = none) (h4 : ab_S i len ls st = none) (h : ab_J i len pc st = some (pc', st')) : Ev d M pc ls st σ Q = Ev d M pc' ls st' σ Q :=
  ev_go (fun n => by rw [ab_run]; simp only [hd, h, h1, h2, h3, h4])
/-- a jump with two ends -/
theorem ev_B {c : Prop} [Decidable c] {a b : Nat} (hd : decode (ab_C M) pc = .ok (i, len)) (h1 : ab_A1 M i len ls st = none) (h2 : ab_A2 i len st = none) (h3 : ab_X d M i len st = none) (h4 : ab_S i len ls st = none) (h : ab_J i len pc st = some (if c then a else b, st')) : Ev d M pc ls st σ Q = if c then Ev d M a ls st' σ Q else Ev d M b ls st' σ Q := by
  rw [ev_J hd h1 h2 h3 h4 h]
  split <;> rfl
/-- arithmetic that may fail -/
theorem ev_D {c : Prop} [Decidable c] (hd : decode (ab_C M) pc = .ok (i, len)) (h1 : ab_A1 M i len ls st = none) (h : ab_A2 i len st = if c then none else some st') (h3 : ab_X d M i len st = none) (h4 : ab_S i len ls st = none) (h5 : ab_J i len pc st = none) (h6 : ab_H d M i len st σ = none) (h7 : ab_E M i len st = none) (h8 : ab_K M i len st = none) : Ev d M pc ls st σ Q = (¬ c ∧ Ev d M (pc + len) ls st' σ Q) :=
  ev_and (c := ¬ c) (fun n => by
    rw [ab_run]
    by_cases hc : c
    · rw [if_pos hc] at h
      rw [if_neg (fun z => z hc)]
      simp only [hd, h1, h, h3, h4, h5, h6, h7, h8]
    · rw [if_neg hc] at h
      rw [if_pos hc]
      simp only [hd, h1, h])
theorem ev_X (hd : decode (ab_C M) pc = .ok (i, len)) (h1 : ab_A1 M i len ls st = none) (h2 : ab_A2 i len st = none) (h : ab_X d M i len st = some st') : Ev d M pc ls st σ Q = Ev d M (pc + len) ls st' σ Q :=
  ev_go (fun n => by rw [ab_run]; simp only [hd, h1, h2, h])
theorem ev_H {σ' : ab_St} (hd : decode (ab_C M) pc = .ok (i, len)) (h1 : ab_A1 M i len ls st = none) (h2 : ab_A2 i len st = none) (h3 : ab_X d M i len st = none) (h4 : ab_S i len ls st = none) (h5 : ab_J i len pc st = none) (h : ab_H d M i len st σ = some (st', σ')) : Ev d M pc ls st σ Q = Ev d M (pc + len) ls st' σ' Q :=
  ev_go (fun n => by rw [ab_run]; simp only [hd, h1, h2, h3, h4, h5, h])
theorem ev_Hc {c : Prop} [Decidable c] {σ' : ab_St} (hd : decode (ab_C M) pc = .ok (i, len)) (h1 : ab_A1 M i len ls st = none) (h2 : ab_A2 i len st = none) (h3 : ab_X d M i len st = none) (h4 : ab_S i len ls st = none) (h5 : ab_J i len pc st = none) (h : ab_H d M i len st σ = if c then some (st', σ') else none) (h7 : ab_E M i len st = none) (h8 : ab_K M i len st = none) : Ev d M pc ls st σ Q = (c ∧ Ev d M (pc + len) ls st' σ' Q) :=
  ev_and (fun n => by
    rw [ab_run]
    by_cases hc : c
    · rw [if_pos hc] at h
      rw [if_pos hc]
      simp only [hd, h1, h2, h3, h4, h5, h]
    · rw [if_neg hc] at h
      rw [if_neg hc]
      simp only [hd, h1, h2, h3, h4, h5, h, h7, h8])
theorem ev_E {r : Option Value} (hd : decode (ab_C M) pc = .ok (i, len)) (h1 : ab_A1 M i len ls st = none) (h2 : ab_A2 i len st = none) (h3 : ab_X d M i len st = none) (h4 : ab_S i len ls st = none) (h5 : ab_J i len pc st = none) (h6 : ab_H d M i len st σ = none) (h : ab_E M i len st = some r) : Ev d M pc ls st σ Q = Q r σ := by
  have hr : ∀ n, ab_run (n + 1) d M pc ls st σ = some (r, σ) := fun n => by rw [ab_run]; simp only [hd, h1, h2, h3, h4, h5, h6, h]
  apply propext
  constructor
  · rintro ⟨n, r1, τ, h1, h2⟩
    cases n with
    | zero => cases h1
    | succ n => rw [hr n] at h1; cases h1; exact h2
  · intro hq
    exact ⟨1, r, σ, hr 0, hq⟩
/-- the end of a method that answers yes or no -/
theorem ev_Z {x : Int32} (hd : decode (ab_C M) pc = .ok (.ireturn, 1)) (hR : ab_R M = some .boolean) : Ev d M pc ls [.int x] σ Q = ((x = 0 ∨ x = 1) ∧ Q (some (.int x)) σ) := by
  by_cases hc : x = 0 ∨ x = 1
  · rw [ev_E (r := some (.int x)) hd rfl rfl rfl rfl rfl rfl (by show (if ab_R M = some .int then _ else if ab_R M = some .boolean then _ else _) = _; rw [hR, if_neg (by decide), if_pos rfl, if_pos hc]), eq_true hc, true_and]
  · rw [eq_false hc, false_and]
    refine ev_stuck (fun n => ?_)
    rw [ab_run]
    have h7 : ab_E M .ireturn 1 [.int x] = none := by show (if ab_R M = some .int then _ else if ab_R M = some .boolean then _ else _) = _; rw [hR, if_neg (by decide), if_pos rfl, if_neg hc]
    have h1 : ab_A1 M .ireturn 1 ls [.int x] = none := rfl
    have h2 : ab_A2 .ireturn 1 [.int x] = none := rfl
    have h3 : ab_X d M .ireturn 1 [.int x] = none := rfl
    have h4 : ab_S .ireturn 1 ls [.int x] = none := rfl
    have h5 : ab_J .ireturn 1 pc [.int x] = none := rfl
    have h6 : ab_H d M .ireturn 1 [.int x] σ = none := rfl
    have h8 : ab_K M .ireturn 1 [.int x] = none := rfl
    simp only [hd, h1, h2, h3, h4, h5, h6, h7, h8]
theorem ev_K0 {y : Nat} {as rest : List Value} (hd : decode (ab_C M) pc = .ok (i, len)) (h1 : ab_A1 M i len ls st = none) (h2 : ab_A2 i len st = none) (h3 : ab_X (d + 1) M i len st = none) (h4 : ab_S i len ls st = none) (h5 : ab_J i len pc st = none) (h6 : ab_H (d + 1) M i len st σ = none) (h7 : ab_E M i len st = none) (h : ab_K M i len st = some (y, as, rest)) :
    Ev (d + 1) M pc ls st σ Q = Ev d y 0 (ab_ent (ab_L y) as) [] σ (fun r σ' => Ev (d + 1) M (pc + 3) ls (r.toList ++ rest) σ' Q) := by
  have hr : ∀ n, ab_run (n + 1) (d + 1) M pc ls st σ = match ab_run n d y 0 (ab_ent (ab_L y) as) [] σ with
      | some w => ab_run n (d + 1) M (pc + 3) ls (w.1.toList ++ rest) w.2
      | none => none := fun n => by
    rw [ab_run]
    simp only [hd, h1, h2, h3, h4, h5, h6, h7, h]
    rfl
  apply propext
  constructor
  · rintro ⟨n, r1, τ, h1, h2⟩
    cases n with
    | zero => cases h1
    | succ n =>
      rw [hr n] at h1
      split at h1
      next w hw => exact ⟨n, w.1, w.2, hw, n, r1, τ, h1, h2⟩
      next => cases h1
  · rintro ⟨n, r1, τ, h1, n2, r2, τ2, h2, h3⟩
    refine ⟨n + n2 + 1, r2, τ2, ?_, h3⟩
    rw [hr (n + n2), ab_more (k := n2) h1]
    simp only
    rw [Nat.add_comm n n2]
    exact ab_more (k := n) h2
/-- a call of an object's method -/
theorem ev_K1 {c : Prop} [Decidable c] {y : Nat} {as rest : List Value} (hd : decode (ab_C M) pc = .ok (i, len)) (h1 : ab_A1 M i len ls st = none) (h2 : ab_A2 i len st = none) (h3 : ab_X (d + 1) M i len st = none) (h4 : ab_S i len ls st = none) (h5 : ab_J i len pc st = none) (h6 : ab_H (d + 1) M i len st σ = none) (h7 : ab_E M i len st = none) (h : c → ab_K M i len st = some (y, as, rest)) (hn : ¬ c → ab_K M i len st = none) :
    Ev (d + 1) M pc ls st σ Q = (c ∧ Ev d y 0 (ab_ent (ab_L y) as) [] σ (fun r σ' => Ev (d + 1) M (pc + 3) ls (r.toList ++ rest) σ' Q)) := by
  by_cases hc : c
  · rw [ev_K0 hd h1 h2 h3 h4 h5 h6 h7 (h hc), eq_true hc, true_and]
  · rw [eq_false hc, false_and]
    refine ev_stuck (fun n => ?_)
    rw [ab_run]
    have h8 := hn hc
    simp only [hd, h1, h2, h3, h4, h5, h6, h7, h8]
theorem ab_K_v {idx y na b : Nat} {as rest : List Value} (hml : ab_ml (ab_O M) idx = some (y, na, 1)) (hst : (st.take (na + 1)).reverse = .ref b :: as) (hrest : st.drop (na + 1) = rest) (hlen : na + 1 ≤ st.length) (hsum : (rest.map fun v => v.category).sum ≤ 8) (hsl : (ab_sl (.ref b :: as)).length ≤ ab_L y) : (ab_k b = ab_O y → ab_K M (.invokevirtual idx) 3 st = some (y, .ref b :: as, rest)) ∧ (¬ ab_k b = ab_O y → ab_K M (.invokevirtual idx) 3 st = none) := by
  have e : ab_K M (.invokevirtual idx) 3 st = (ab_ml (ab_O M) idx).bind (fun q => if q.2.2 = 1 ∧ q.2.1 + 1 ≤ st.length ∧ ((st.drop (q.2.1 + 1)).map fun v => v.category).sum ≤ 8 ∧ (ab_sl (st.take (q.2.1 + 1)).reverse).length ≤ ab_L q.1 ∧ ab_recvB q.1 (st.take (q.2.1 + 1)).reverse = true then some (q.1, (st.take (q.2.1 + 1)).reverse, st.drop (q.2.1 + 1)) else none) := rfl
  rw [e, hml]
  simp only [Option.bind_some, hst, hrest]
  constructor
  · intro h
    rw [if_pos ⟨trivial, hlen, hsum, hsl, by simpa [ab_recvB] using h⟩]
  · intro h
    rw [if_neg (fun z => h (by simpa [ab_recvB] using z.2.2.2.2))]
theorem ev_KV {idx y na b : Nat} {as rest : List Value} (hd : decode (ab_C M) pc = .ok (.invokevirtual idx, 3)) (hml : ab_ml (ab_O M) idx = some (y, na, 1)) (hst : (st.take (na + 1)).reverse = .ref b :: as) (hrest : st.drop (na + 1) = rest) (hlen : na + 1 ≤ st.length) (hsum : (rest.map fun v => v.category).sum ≤ 8) (hsl : (ab_sl (.ref b :: as)).length ≤ ab_L y)
    (h1 : ab_A1 M (.invokevirtual idx) 3 ls st = none) (h2 : ab_A2 (.invokevirtual idx) 3 st = none) (h3 : ab_X (d + 1) M (.invokevirtual idx) 3 st = none) (h4 : ab_S (.invokevirtual idx) 3 ls st = none) (h5 : ab_J (.invokevirtual idx) 3 pc st = none) (h6 : ab_H (d + 1) M (.invokevirtual idx) 3 st σ = none) (h7 : ab_E M (.invokevirtual idx) 3 st = none) :
    Ev (d + 1) M pc ls st σ Q = (ab_k b = ab_O y ∧ Ev d y 0 (ab_ent (ab_L y) (.ref b :: as)) [] σ (fun r σ' => Ev (d + 1) M (pc + 3) ls (r.toList ++ rest) σ' Q)) :=
  ev_K1 hd h1 h2 h3 h4 h5 h6 h7 (ab_K_v hml hst hrest hlen hsum hsl).1 (ab_K_v hml hst hrest hlen hsum hsl).2
/-- a store into a row of bytes or of yes and no -/
theorem ev_bast {c j : Nat} {x k : Int32} {rest : List Value} (hd : decode (ab_C M) pc = .ok (.bastore, 1)) : Ev d M pc ls (.int x :: .int k :: .ref c :: rest) σ Q = if ab_k c = 101 ∧ ab_in k (ab_n c) then Ev d M (pc + 1) ls rest (ab_wI σ c (upd (σ.1 c) k.toNatClampNeg (vp_nar .byte x))) Q else ((ab_k c = 102 ∧ ab_in k (ab_n c)) ∧ Ev d M (pc + 1) ls rest (ab_wI σ c (upd (σ.1 c) k.toNatClampNeg (vp_nar .boolean x))) Q) := by
  by_cases h : ab_k c = 101 ∧ ab_in k (ab_n c)
  · rw [if_pos h]
    exact ev_H hd rfl rfl rfl rfl rfl (if_pos h)
  · rw [if_neg h]
    exact ev_Hc hd rfl rfl rfl rfl rfl (if_neg h) rfl rfl
end EV
theorem ab_X_ok {d M idx k : Nat} {x y : Int32} {st : List Value} (h : ab_mm (ab_O M) idx = some k) (hs : (st.map fun v => v.category).sum ≤ 8) : ab_X (d + 1) M (.invokestatic idx) 3 (.int y :: .int x :: st) = some (.int (if k = 0 then (if x < y then y else x) else (if y < x then y else x)) :: st) := by
  show (ab_mm (ab_O M) idx).bind _ = _
  rw [h]
  exact if_pos ⟨Nat.succ_pos d, hs⟩
theorem ev_ac {d M pc idx : Nat} {ls : ab_Lo} {rest : List Value} {σ : ab_St} {Q : Option Value → ab_St → Prop} {n dp sp : Int32} {c c0 : Nat} (hd : decode (ab_C M) pc = .ok (.invokestatic idx, 3)) (ha : ab_ac (ab_O M) idx = true) (hs : (rest.map fun v => v.category).sum ≤ 8) (hmm : ab_mm (ab_O M) idx = none) (hml : ab_ml (ab_O M) idx = none) :
    Ev (d + 1) M pc ls (.int n :: .int dp :: .ref c :: .int sp :: .ref c0 :: rest) σ Q = (((ab_k c0 = 100 ∧ ab_k c = 100) ∧ (¬ sp < 0 ∧ ¬ dp < 0 ∧ ¬ n < 0) ∧ sp.toNatClampNeg + n.toNatClampNeg ≤ ab_n c0 ∧ dp.toNatClampNeg + n.toNatClampNeg ≤ ab_n c) ∧ Ev (d + 1) M (pc + 3) ls rest (ab_wI σ c (va_cpy (σ.1 c0) (σ.1 c) sp.toNatClampNeg dp.toNatClampNeg n.toNatClampNeg)) Q) := by
  have hX : ab_X (d + 1) M (.invokestatic idx) 3 (.int n :: .int dp :: .ref c :: .int sp :: .ref c0 :: rest) = none := by
    show (ab_mm (ab_O M) idx).bind _ = _
    rw [hmm]
    rfl
  have hK : ab_K M (.invokestatic idx) 3 (.int n :: .int dp :: .ref c :: .int sp :: .ref c0 :: rest) = none := by
    show (ab_ml (ab_O M) idx).bind _ = _
    rw [hml]
    rfl
  refine ev_Hc hd rfl rfl hX rfl rfl ?_ rfl hK
  show (if ab_ac (ab_O M) idx = true then _ else none) = _
  rw [if_pos ha]
  by_cases hc : (ab_k c0 = 100 ∧ ab_k c = 100) ∧ (¬ sp < 0 ∧ ¬ dp < 0 ∧ ¬ n < 0) ∧ sp.toNatClampNeg + n.toNatClampNeg ≤ ab_n c0 ∧ dp.toNatClampNeg + n.toNatClampNeg ≤ ab_n c
  · rw [if_pos hc, if_pos ⟨Nat.succ_pos d, hc.1, hc.2.1, hc.2.2.1, hc.2.2.2, hs⟩]
  · rw [if_neg hc, if_neg (fun z => hc ⟨z.2.1, z.2.2.1, z.2.2.2.1, z.2.2.2.2.1⟩)]
/-- a jump by a table from 0 on -/
def ab_sw (x : Int32) (df : Nat) (G : Nat → Prop) : Nat → List Nat → Prop
  | _, [] => G df
  | k, t :: ts => if x = Int32.ofNat k then G t else ab_sw x df G (k + 1) ts
theorem ab_sw_out {x : Int32} {df : Nat} {G : Nat → Prop} : ∀ (ts : List Nat) (k0 : Nat), (∀ k, k < ts.length → ¬ x = Int32.ofNat (k0 + k)) → ab_sw x df G k0 ts = G df := by
  intro ts
  induction ts with
  | nil => intro k0 _; rfl
  | cons t ts ih =>
    intro k0 h
    show (if x = Int32.ofNat k0 then G t else ab_sw x df G (k0 + 1) ts) = G df
    have h00 : ¬ x = Int32.ofNat k0 := h 0 (Nat.succ_pos _)
    rw [if_neg h00, ih (k0 + 1) (fun k hk => by
      have := h (k + 1) (by rw [List.length_cons]; omega)
      rwa [show k0 + (k + 1) = k0 + 1 + k by omega] at this)]
theorem ab_sw_at {x : Int32} {df : Nat} {G : Nat → Prop} : ∀ (ts : List Nat) (k0 k : Nat) (t : Nat), ts[k]? = some t → x = Int32.ofNat (k0 + k) → k0 + ts.length ≤ 100 → ab_sw x df G k0 ts = G t := by
  intro ts
  induction ts with
  | nil => intro k0 k t h; simp at h
  | cons a ts ih =>
    intro k0 k t h hx hl
    show (if x = Int32.ofNat k0 then G a else ab_sw x df G (k0 + 1) ts) = G t
    rw [List.length_cons] at hl
    cases k with
    | zero =>
      have hx0 : x = Int32.ofNat k0 := hx
      rw [if_pos hx0]
      simp only [List.getElem?_cons_zero, Option.some.injEq] at h
      rw [h]
    | succ k =>
      rw [List.getElem?_cons_succ] at h
      have hk : k < ts.length := (List.getElem?_eq_some_iff.mp h).1
      have hne : ¬ x = Int32.ofNat k0 := by
        rw [hx]
        intro e
        have e : nI (k0 + (k + 1)) = nI k0 := e
        rw [nI_eq (by omega) (by omega)] at e
        omega
      rw [if_neg hne]
      exact ih (k0 + 1) k t h (by rw [hx]; congr 1; omega) (by omega)
theorem ev_T {d M pc df len : Nat} {ls : ab_Lo} {rest : List Value} {σ : ab_St} {Q : Option Value → ab_St → Prop} {x : Int32} {dflt hi : Int} {offs : Array Int} {ts : List Nat} (hd : decode (ab_C M) pc = .ok (.tableswitch dflt 0 hi offs, len))
    (hc : ts = offs.toList.map (ab_to pc) ∧ (∀ o ∈ offs.toList, 0 ≤ (pc : Int) + o) ∧ df = ab_to pc dflt ∧ 0 ≤ (pc : Int) + dflt ∧ hi + 1 = offs.toList.length ∧ offs.toList.length ≤ 100) : Ev d M pc ls (.int x :: rest) σ Q = ab_sw x df (fun t => Ev d M t ls rest σ Q) 0 ts := by
  obtain ⟨h1, h2, h3, h4, h5, h6⟩ := hc
  have hlen : ts.length = offs.toList.length := by rw [h1, List.length_map]
  by_cases hz : x.toInt < 0 ∨ hi < x.toInt
  · rw [ab_sw_out ts 0 (fun k hk e => by
      have e1 : x.toInt = (k : Int) := by rw [e, Nat.zero_add]; exact nI_toInt (by omega)
      omega), h3]
    refine ev_J hd rfl rfl rfl rfl ?_
    show (ab_tsw dflt 0 hi offs x).bind _ = _
    unfold ab_tsw
    rw [if_pos hz]
    exact if_pos h4
  · have hx : x = Int32.ofNat (0 + x.toInt.toNat) := by
      rw [Nat.zero_add]
      apply Int32.toInt_inj.mp
      have : (nI x.toInt.toNat).toInt = (x.toInt.toNat : Int) := nI_toInt (by omega)
      rw [show Int32.ofNat x.toInt.toNat = nI x.toInt.toNat from rfl, this]
      omega
    have hk : x.toInt.toNat < offs.toList.length := by omega
    have ho : offs.toList[x.toInt.toNat]? = some offs.toList[x.toInt.toNat] := List.getElem?_eq_getElem hk
    have ht : ts[x.toInt.toNat]? = some (ab_to pc offs.toList[x.toInt.toNat]) := by rw [h1, List.getElem?_map, ho]; rfl
    rw [ab_sw_at ts 0 _ _ ht hx (by omega)]
    refine ev_J hd rfl rfl rfl rfl ?_
    show (ab_tsw dflt 0 hi offs x).bind _ = _
    unfold ab_tsw
    have ho2 : offs[x.toInt.toNat]? = some offs.toList[x.toInt.toNat] := by rw [← ho]; exact Array.getElem?_toList.symm
    rw [if_neg hz, Int.sub_zero, ho2]
    exact if_pos (h2 _ (List.getElem_mem hk))
