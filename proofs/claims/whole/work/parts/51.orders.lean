/-! WHAT CAN COME ABOUT -/
def can (t : gT) (f : Nat → Nat) (th sd n : Nat) (l : Int32) (s : Nat) : Bool := alw t (fwd t f sd n) th n l s
/-- behind k more sayings n can be said and l be the last -/
def Rcf (t : gT) (f : Nat → Nat) (th sd : Nat) (la : Int32) : Nat → Nat → Int32 → Prop
  | 0, n, l => n = sd ∧ l = la
  | k + 1, n, l => ∃ m l' s, Rcf t f th sd la k m l' ∧ s < tS t ∧ can t f th sd m l' s = true ∧ n = m ||| 2 ^ s ∧ l = nI s
def Rc (t : gT) (f : Nat → Nat) (th sd : Nat) (la : Int32) (n : Nat) (l : Int32) : Prop := ∃ k, Rcf t f th sd la k n l
section Orders
variable {t : gT} {f : Nat → Nat} {th sd : Nat} {la : Int32}
theorem Rc_0 : Rc t f th sd la sd la := ⟨0, rfl, rfl⟩
theorem Rc_s {n s : Nat} {l : Int32} (h : Rc t f th sd la n l) (hs : s < tS t) (hc : can t f th sd n l s = true) : Rc t f th sd la (n ||| 2 ^ s) (nI s) := by
  obtain ⟨k, h⟩ := h
  exact ⟨k + 1, n, l, s, h, hs, hc, rfl, rfl⟩
theorem Rc_ind (P : Nat → Int32 → Prop) (h0 : P sd la) (h1 : ∀ n l s, Rc t f th sd la n l → P n l → s < tS t → can t f th sd n l s = true → P (n ||| 2 ^ s) (nI s)) {n : Nat} {l : Int32} (h : Rc t f th sd la n l) : P n l := by
  obtain ⟨k, h⟩ := h
  induction k generalizing n l with
  | zero => obtain ⟨rfl, rfl⟩ := h; exact h0
  | succ k ih =>
    obtain ⟨m, l', s, h2, hs, hc, rfl, rfl⟩ := h
    exact h1 m l' s ⟨k, h2⟩ (ih h2) hs hc
theorem Rc_inv {n : Nat} {l : Int32} (h : Rc t f th sd la n l) : (n = sd ∧ l = la) ∨ ∃ m l' s, Rc t f th sd la m l' ∧ s < tS t ∧ can t f th sd m l' s = true ∧ n = m ||| 2 ^ s ∧ l = nI s := by
  obtain ⟨k, h⟩ := h
  cases k with
  | zero => exact Or.inl h
  | succ k =>
    obtain ⟨m, l', s, h2, h3⟩ := h
    exact Or.inr ⟨m, l', s, ⟨k, h2⟩, h3⟩
theorem can_n {n s : Nat} {l : Int32} (h : can t f th sd n l s = true) : n.testBit s = false := by
  unfold can alw at h
  simp only [Bool.and_eq_true] at h
  simpa using h.1
theorem can_th {n s : Nat} {l : Int32} (h : can t f th sd n l s = true) : th.testBit (tw t s) = true := alw_th h
theorem or_gt {n s : Nat} (h : n.testBit s = false) : n < n ||| 2 ^ s := by
  have h1 : n ≤ n ||| 2 ^ s := Nat.left_le_or
  have h2 : n ≠ n ||| 2 ^ s := fun e => by
    have := bit_set n s s
    rw [← e, h] at this
    simp at this
  omega
theorem or_lt {n s m : Nat} (h : n < 2 ^ m) (hs : s < m) : n ||| 2 ^ s < 2 ^ m := Nat.or_lt_two_pow h (Nat.pow_lt_pow_right (by decide) hs)
theorem Rc_sub {n : Nat} {l : Int32} (h : Rc t f th sd la n l) : ∀ i, sd.testBit i = true → n.testBit i = true :=
  Rc_ind (fun n _ => ∀ i, sd.testBit i = true → n.testBit i = true) (fun _ h => h) (fun n l s _ ih _ _ i hi => by rw [bit_set, ih i hi]; rfl) h
theorem Rc_sd {n s : Nat} {l : Int32} (h : Rc t f th sd la n l) (hn : n.testBit s = false) : sd.testBit s = false := by
  cases e : sd.testBit s
  · rfl
  · rw [Rc_sub h s e] at hn; exact hn
theorem Rc_lt {n : Nat} {l : Int32} (hsd : sd < 2 ^ tS t) (h : Rc t f th sd la n l) : n < 2 ^ tS t :=
  Rc_ind (fun n _ => n < 2 ^ tS t) hsd (fun n l s _ ih hs _ => or_lt ih hs) h
theorem Rc_ge {n : Nat} {l : Int32} (h : Rc t f th sd la n l) : sd ≤ n :=
  Rc_ind (fun n _ => sd ≤ n) (Nat.le_refl _) (fun n l s _ ih hs _ => Nat.le_trans ih Nat.left_le_or) h
theorem Rc_la {n : Nat} {l : Int32} (hla : laok t la) (h : Rc t f th sd la n l) : laok t l :=
  Rc_ind (fun _ l => laok t l) hla (fun n l s _ _ hs _ => Or.inr ⟨s, hs, rfl⟩) h
theorem Rc_fwd {n s : Nat} {l : Int32} (h : Rc t f th sd la n l) (hs : s < tS t) (hc : can t f th sd n l s = true) : fwd t f sd (n ||| 2 ^ s) = utw t (fwd t f sd n) s := fwd_add (can_n hc) (Rc_sd h (can_n hc)) hs
theorem Rc_spt {n s : Nat} {l : Int32} (h : Rc t f th sd la n l) (hs : s < tS t) (hc : can t f th sd n l s = true) : spt t sd (n ||| 2 ^ s) = spt t sd n + tz t s := spt_add (can_n hc) (Rc_sd h (can_n hc)) hs
theorem Rc_gnd {n s : Nat} {l : Int32} (h : Rc t f th sd la n l) (hs : s < tS t) (hc : can t f th sd n l s = true) : gnd t sd (n ||| 2 ^ s) = gnd t sd n + tv t s := gnd_add (can_n hc) (Rc_sd h (can_n hc)) hs
end Orders
/-- a last saying's bit -/
def lb (l : Int32) : Nat := if l = -9 then 8 else l.toNatClampNeg
theorem lb_9 : lb (-9) = 8 := rfl
theorem lb_n {k : Nat} (h : k < 8) : lb (nI k) = k := by
  unfold lb
  rw [if_neg (nI_m9 (by omega)), nI_clamp (by omega)]
theorem lb_lt {t : gT} {l : Int32} (ht : tok t) (h : laok t l) : lb l < 9 := by
  rcases h with rfl | ⟨k, hk, rfl⟩
  · decide
  · rw [lb_n (by have := ht.2.1; omega)]; have := ht.2.1; omega
theorem lb_inj {t : gT} {l l' : Int32} (ht : tok t) (h : laok t l) (h' : laok t l') (e : lb l = lb l') : l = l' := by
  have := ht.2.1
  rcases h with rfl | ⟨k, hk, rfl⟩ <;> rcases h' with rfl | ⟨k', hk', rfl⟩
  · rfl
  · rw [lb_9, lb_n (by omega)] at e; omega
  · rw [lb_9, lb_n (by omega)] at e; omega
  · rw [lb_n (by omega), lb_n (by omega)] at e; rw [e]
/-- the bits of lasts when the sets below k went on -/
def PR (t : gT) (f : Nat → Nat) (th sd : Nat) (la : Int32) (k n j : Nat) : Prop := (n = sd ∧ j = lb la) ∨ ∃ m l, m < k ∧ Rc t f th sd la m l ∧ j < tS t ∧ can t f th sd m l j = true ∧ n = m ||| 2 ^ j
theorem PR_full {t : gT} {f : Nat → Nat} {th sd : Nat} {la : Int32} {k n j : Nat} (ht : tok t) (hn : n ≤ k) : PR t f th sd la k n j ↔ ∃ l, Rc t f th sd la n l ∧ lb l = j := by
  have := ht.2.1
  constructor
  · rintro (⟨rfl, rfl⟩ | ⟨m, l, -, h2, h3, h4, rfl⟩)
    · exact ⟨la, Rc_0, rfl⟩
    · exact ⟨nI j, Rc_s h2 h3 h4, lb_n (by omega)⟩
  · rintro ⟨l, h, rfl⟩
    rcases Rc_inv h with ⟨rfl, rfl⟩ | ⟨m, l', s, h2, h3, h4, rfl, rfl⟩
    · exact Or.inl ⟨rfl, rfl⟩
    · rw [lb_n (by omega)]
      exact Or.inr ⟨m, l', Nat.lt_of_lt_of_le (or_gt (can_n h4)) hn, h2, h3, h4, rfl⟩
/-- the row open as it is found -/
def opn (t : gT) (f : Nat → Nat) (th sd n v : Nat) : Nat := sof (tS t) (fun s => !n.testBit s && (if ta t s = -9 then (lst th (fwd t f sd n)).testBit (tw t s) else th.testBit (tw t s) && v.testBit (ta t s).toNatClampNeg))
theorem opn_bit {t : gT} {f : Nat → Nat} {th sd : Nat} {la : Int32} {n v : Nat} (ht : tok t) (hth : th < 64) (hla : laok t la) (hv : ∀ j, v.testBit j = true ↔ ∃ l, Rc t f th sd la n l ∧ lb l = j) (hne : ∃ l, Rc t f th sd la n l) (s : Nat) : (opn t f th sd n v).testBit s = true ↔ s < tS t ∧ ∃ l, Rc t f th sd la n l ∧ can t f th sd n l s = true := by
  have h8 := ht.2.1
  unfold opn
  rw [sof_bit, Bool.and_eq_true, decide_eq_true_eq, Bool.and_eq_true]
  refine and_congr_right (fun hs => ?_)
  unfold can alw
  simp only [Bool.and_eq_true]
  by_cases e : ta t s = -9
  · simp only [if_pos e]
    constructor
    · rintro ⟨a, b⟩
      obtain ⟨l, hl⟩ := hne
      exact ⟨l, hl, a, ((lst_bit hth _).mp b).1, b⟩
    · rintro ⟨l, hl, a, b, c⟩
      exact ⟨a, c⟩
  · simp only [if_neg e, Bool.and_eq_true, decide_eq_true_eq]
    rcases (ht.2.2 s hs).2.2.2.2 with e2 | ⟨a, ha, e2⟩
    · exact absurd e2 e
    rw [e2, nI_clamp (by omega), hv a]
    constructor
    · rintro ⟨x, y, l, hl, e3⟩
      refine ⟨l, hl, x, y, ?_⟩
      exact (lb_inj ht (Rc_la hla hl) (Or.inr ⟨a, by omega, rfl⟩) (by rw [e3, lb_n (by omega)])).symm
    · rintro ⟨l, hl, x, y, e3⟩
      exact ⟨x, y, l, hl, by rw [← e3, lb_n (by omega)]⟩
