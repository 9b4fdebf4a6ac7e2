/-! WHAT ALL SAY OR HOLD OUT -/
def wo (t : gT) (p e : Nat) : Nat := sm (sgo t p &&& e) (tv t) (tS t)
/-- what p chooses -/
def chc (t : gT) (g : Nat → Nat) (n p m e : Nat) : Nat := itn (fun s a => if tw t s = p ∧ n.testBit s = false ∧ wo t p a < wo t p (g s) then g s else a) m e
/-- the last j are asked, the last first -/
def edN (t : gT) (g : Nat → Nat) (n L : Nat) : Nat → Nat → Nat
  | 0, e => e
  | j + 1, e => edN t g n L j (if L.testBit j = true then chc t g n j (tS t) e else e)
def En (t : gT) (f : Nat → Nat) (th sd : Nat) : Nat → Nat → Nat
  | 0, n => n
  | k + 1, n => edN t (fun s => En t f th sd k (n ||| 2 ^ s)) n (lst th (fwd t f sd n)) 6 n
def EN (t : gT) (f : Nat → Nat) (th sd n : Nat) : Nat := En t f th sd (un t n + 1) n
theorem chc_s (t : gT) (g : Nat → Nat) (n p m e : Nat) : chc t g n p (m + 1) e = if tw t m = p ∧ n.testBit m = false ∧ wo t p (chc t g n p m e) < wo t p (g m) then g m else chc t g n p m e := rfl
theorem chc_c {t : gT} {g g' : Nat → Nat} {n p : Nat} (m e : Nat) (h : ∀ s, s < m → n.testBit s = false → g s = g' s) : chc t g n p m e = chc t g' n p m e := by
  induction m with
  | zero => rfl
  | succ m ih =>
    rw [chc_s, chc_s, ih (fun s hs => h s (by omega))]
    cases hb : n.testBit m
    · rw [h m (by omega) hb]
    · rw [if_neg (fun z => absurd z.2.1 (by decide)), if_neg (fun z => absurd z.2.1 (by decide))]
theorem edN_c {t : gT} {g g' : Nat → Nat} {n L : Nat} (h : ∀ s, s < tS t → n.testBit s = false → g s = g' s) : ∀ (j e : Nat), edN t g n L j e = edN t g' n L j e := by
  intro j
  induction j with
  | zero => intro e; rfl
  | succ j ih => intro e; unfold edN; rw [chc_c (tS t) e h, ih]
theorem EN_eq (t : gT) (f : Nat → Nat) (th sd n : Nat) : EN t f th sd n = edN t (fun s => EN t f th sd (n ||| 2 ^ s)) n (lst th (fwd t f sd n)) 6 n := by
  show edN t (fun s => En t f th sd (un t n) (n ||| 2 ^ s)) n (lst th (fwd t f sd n)) 6 n = _
  refine edN_c (fun s hs hb => ?_) 6 n
  show En t f th sd (un t n) (n ||| 2 ^ s) = En t f th sd (un t (n ||| 2 ^ s) + 1) (n ||| 2 ^ s)
  rw [un_add hb hs]
theorem chc_lt {t : gT} {g : Nat → Nat} {n p N : Nat} (m e : Nat) (he : e < N) (h : ∀ s, s < m → g s < N) : chc t g n p m e < N := by
  induction m with
  | zero => exact he
  | succ m ih =>
    rw [chc_s]
    split
    · exact h m (by omega)
    · exact ih (fun s hs => h s (by omega))
theorem edN_lt {t : gT} {g : Nat → Nat} {n L N : Nat} (h : ∀ s, s < tS t → g s < N) : ∀ (j e : Nat), e < N → edN t g n L j e < N := by
  intro j
  induction j with
  | zero => intro e he; exact he
  | succ j ih =>
    intro e he
    unfold edN
    refine ih _ ?_
    split
    · exact chc_lt _ _ he h
    · exact he
theorem En_lt {t : gT} {f : Nat → Nat} {th sd : Nat} : ∀ (k n : Nat), n < 2 ^ tS t → En t f th sd k n < 2 ^ tS t := by
  intro k
  induction k with
  | zero => intro n hn; exact hn
  | succ k ih =>
    intro n hn
    unfold En
    exact edN_lt (fun s hs => ih _ (or_lt hn hs)) 6 n hn
theorem EN_lt {t : gT} {f : Nat → Nat} {th sd n : Nat} (hn : n < 2 ^ tS t) : EN t f th sd n < 2 ^ tS t := En_lt _ _ hn
theorem edN_stop {t : gT} {g : Nat → Nat} {n L P : Nat} (hL : L < 2 ^ P) : ∀ (m e : Nat), edN t g n L (P + m) e = edN t g n L P e := by
  intro m
  induction m with
  | zero => intro e; rfl
  | succ m ih =>
    intro e
    show edN t g n L (P + m) (if L.testBit (P + m) = true then chc t g n (P + m) (tS t) e else e) = _
    have hb : L.testBit (P + m) = false := by
      cases h : L.testBit (P + m)
      · rfl
      · have := bit_lt hL h; omega
    rw [hb, if_neg (by decide), ih]
theorem wo_le {t : gT} (ht : tok t) (p e : Nat) : wo t p e ≤ 72 := by
  have h := sm_le (sgo t p &&& e) (tv t) 9 (tS t) (fun q hq _ => (ht.2.2 q hq).2.2.2.1)
  have := ht.2.1
  unfold wo
  omega
theorem sgo_b2 (t : gT) (p s : Nat) : (sgo t p).testBit s = (decide (s < tS t) && (tw t s == p)) := sof_bit _ _ _
section Each
variable {t : gT} {f : Nat → Nat} {th sd : Nat}
set_option maxHeartbeats 8000000 in
/-- choiceOf -/
theorem c84 {d p n e0 : Nat} {g : Nat → Nat} {σ : ab_St} {Q : Option Value → ab_St → Prop} (ht : tok t) (htd : tdV σ 11 t) (hn : n < 2 ^ tS t) (hp : p < 6) (he : e0 < 256) (hg : ∀ s, s < tS t → tw t s = p → n.testBit s = false → σ.1 45 (n ||| 2 ^ s) = nI (g s)) (hg2 : ∀ s, s < tS t → g s < 256) :
    Ev (d + 2) 84 0 [some (.ref 40), some (.ref 11), some (.int (nI p)), some (.int (nI n)), some (.int (nI e0)), none, none, none, none, none, none] [] σ Q = Q (some (.int (nI (chc t g n p (tS t) e0)))) σ := by
  have h8 := ht.2.1
  have h256 := two_le8 _ h8
  have hsg : sgo t p < 2 ^ tS t := sof_lt _ _
  have c39' := fun (st : Nat) (hst : st < 256) Q => c39 (d := d) (c := 11) (st := st) (σ := σ) (Q := Q) tdO11 ht htd (by omega)
  have ands : ∀ e, e < 256 → sgo t p &&& e < 256 := fun e he => Nat.lt_of_le_of_lt Nat.and_le_right he
  have key : ∀ (m i : Nat) (l9 l10 : Option Value), i + m = tS t → Ev (d + 1 + 1) 84 25 [some (.ref 40), some (.ref 11), some (.int (nI p)), some (.int (nI n)), some (.int (nI e0)), some (.int (nI (sgo t p))), some (.int (nI (chc t g n p i e0))), some (.int (nI (wo t p (chc t g n p i e0)))), some (.int (nI i)), l9, l10] [] σ Q = Q (some (.int (nI (chc t g n p (tS t) e0)))) σ := by
    intro m
    induction m with
    | zero =>
      intro i l9 l10 hi
      have hi2 : i = tS t := by omega
      subst hi2
      have hge : (nI (tS t) ≤ nI (tS t)) = True := eq_true (nI_le (Nat.le_refl _) (by omega))
      rw [e84_25]
      simp only [e84_27, e84_28, e84_31, e84_34, e84_36, e84_37, e84_38, e84_39, e84_40, e84_42, e84_45, e84_48, e84_51, e84_52, e84_55, e84_56, e84_57, e84_59, e84_60, e84_61, e84_62, e84_64, e84_65, e84_67, e84_69, e84_70, e84_73, e84_75, e84_77, e84_79, e84_82, e84_84, e84_86, e84_88, e84_90, e84_93, e84_96, e84_98, true_or, or_true, true_and, and_true, Option.toList, List.cons_append, List.nil_append, if_true, if_false, reduceIte, sk11, htd.2.1, hge]
    | succ m ih =>
      intro i l9 l10 hi
      have his : i < tS t := by omega
      have hge : (nI (tS t) ≤ nI i) = False := eq_false (nI_ge his (by omega))
      have ih' := ih (i + 1)
      rw [chc_s] at ih'
      have hc := chc_lt (t := t) (g := g) (n := n) (p := p) i e0 he (fun s hs => hg2 s (by omega))
      have hwc := wo_le ht p (chc t g n p i e0)
      generalize chc t g n p i e0 = a at ih' hc hwc ⊢
      have hnd : (nd (sgo t p) n).testBit i = (decide (tw t i = p) && !n.testBit i) := by
        rw [nd_bit, sgo_b2, decide_eq_true his, Bool.true_and]
        rfl
      have hndl : nd (sgo t p) n < 2 ^ tS t := nd_lt hsg
      rw [e84_25]
      by_cases hc2 : tw t i = p ∧ n.testBit i = false
      · have hx : n ||| 2 ^ i < 256 := Nat.lt_of_lt_of_le (or_lt hn his) h256
        have hgi := hg i his hc2.1 hc2.2
        have hgi2 := hg2 i his
        have hwg := wo_le ht p (g i)
        rw [hc2.2, decide_eq_true hc2.1] at hnd
        have hnd : (nd (sgo t p) n).testBit i = true := hnd
        by_cases hlt : wo t p a < wo t p (g i)
        · rw [if_pos ⟨hc2.1, hc2.2, hlt⟩] at ih'
          have hle : (nI (wo t p (g i)) ≤ nI (wo t p a)) = False := eq_false (nI_ge hlt (by omega))
          have ih2 := fun l9 l10 => ih' l9 l10 (by omega)
          simp only [wo] at hle ih2 ⊢
          simp only [e84_27, e84_28, e84_31, e84_34, e84_36, e84_37, e84_38, e84_39, e84_40, e84_42, e84_45, e84_48, e84_51, e84_52, e84_55, e84_56, e84_57, e84_59, e84_60, e84_61, e84_62, e84_64, e84_65, e84_67, e84_69, e84_70, e84_73, e84_75, e84_77, e84_79, e84_82, e84_84, e84_86, e84_88, e84_90, e84_93, true_or, or_true, true_and, and_true, Option.toList, List.cons_append, List.nil_append, if_true, if_false, reduceIte, sk11, sk40, sr40_2, sk45, sn45, htd.2.1, hge, nI_nd (a := sgo t p) (b := n) (by omega) (by omega), c32 (s := nd (sgo t p) n) (k := i) (by omega) (by omega), hnd, bI_0, Bool.true_eq_false, nI_set (a := n) (k := i) (by omega) (by omega), in_eq (j := n ||| 2 ^ i) (n := 256) hx (by decide), nI_clamp (n := n ||| 2 ^ i) (by omega), hgi, nI_and (a := sgo t p) (b := g i) (by omega) (by omega), c39' _ (ands (g i) hgi2), hle, nI_1, ih2]
        · rw [if_neg (fun z => hlt z.2.2)] at ih'
          have hle : (nI (wo t p (g i)) ≤ nI (wo t p a)) = True := eq_true (nI_le (by omega) (by omega))
          have ih2 := fun l9 l10 => ih' l9 l10 (by omega)
          simp only [wo] at hle ih2 ⊢
          simp only [e84_27, e84_28, e84_31, e84_34, e84_36, e84_37, e84_38, e84_39, e84_40, e84_42, e84_45, e84_48, e84_51, e84_52, e84_55, e84_56, e84_57, e84_59, e84_60, e84_61, e84_62, e84_64, e84_65, e84_67, e84_69, e84_70, e84_73, e84_75, e84_77, e84_79, e84_82, e84_84, e84_86, e84_88, e84_90, e84_93, true_or, or_true, true_and, and_true, Option.toList, List.cons_append, List.nil_append, if_true, if_false, reduceIte, sk11, sk40, sr40_2, sk45, sn45, htd.2.1, hge, nI_nd (a := sgo t p) (b := n) (by omega) (by omega), c32 (s := nd (sgo t p) n) (k := i) (by omega) (by omega), hnd, bI_0, Bool.true_eq_false, nI_set (a := n) (k := i) (by omega) (by omega), in_eq (j := n ||| 2 ^ i) (n := 256) hx (by decide), nI_clamp (n := n ||| 2 ^ i) (by omega), hgi, nI_and (a := sgo t p) (b := g i) (by omega) (by omega), c39' _ (ands (g i) hgi2), hle, nI_1, ih2]
      · rw [if_neg (fun z => hc2 ⟨z.1, z.2.1⟩)] at ih'
        have hnd2 : (nd (sgo t p) n).testBit i = false := by
          rw [hnd]
          by_cases e : tw t i = p
          · cases hb : n.testBit i
            · exact absurd ⟨e, hb⟩ hc2
            · simp
          · simp [e]
        simp only [e84_27, e84_28, e84_31, e84_34, e84_36, e84_37, e84_38, e84_39, e84_40, e84_42, e84_45, e84_48, e84_51, e84_52, e84_55, e84_56, e84_57, e84_59, e84_60, e84_61, e84_62, e84_64, e84_65, e84_67, e84_69, e84_70, e84_73, e84_75, e84_77, e84_79, e84_82, e84_84, e84_86, e84_88, e84_90, e84_93, true_or, or_true, true_and, and_true, Option.toList, List.cons_append, List.nil_append, if_true, if_false, reduceIte, sk11, htd.2.1, hge, nI_nd (a := sgo t p) (b := n) (by omega) (by omega), c32 (s := nd (sgo t p) n) (k := i) (by omega) (by omega), hnd2, bI_0, nI_1]
        exact ih' _ _ (by omega)
  simp only [e84_0, e84_1, e84_2, e84_5, e84_7, e84_9, e84_11, e84_12, e84_14, e84_16, e84_17, e84_20, e84_22, e84_23, true_or, or_true, true_and, and_true, Option.toList, List.cons_append, List.nil_append, if_true, if_false, reduceIte, sk11, c42 (d := d + 1) (c := 11) (p := p) tdO11 ht htd (by omega), nI_and (a := sgo t p) (b := e0) (by omega) (by omega), c39' _ (ands e0 he)]
  exact key (tS t) 0 none none (by omega)
set_option maxHeartbeats 8000000 in
/-- endFrom -/
theorem c83 {d n v L : Nat} {g : Nat → Nat} {σ : ab_St} {Q : Option Value → ab_St → Prop} (ht : tok t) (htd : tdV σ 11 t) (hn : n < 2 ^ tS t) (h44 : σ.1 44 n = nI v) (hv : v < 256) (hvb : ∀ p, p < 6 → v.testBit p = L.testBit p) (hg : ∀ s, s < tS t → L.testBit (tw t s) = true → n.testBit s = false → σ.1 45 (n ||| 2 ^ s) = nI (g s)) (hg2 : ∀ s, s < tS t → g s < 256) :
    Ev (d + 3) 83 0 [some (.ref 40), some (.ref 11), some (.int (nI n)), none, none] [] σ Q = Q (some (.int (nI (edN t g n L 6 n)))) σ := by
  have h8 := ht.2.1
  have h256 := two_le8 _ h8
  have key : ∀ (j e : Nat), j ≤ 6 → e < 256 → Ev (d + 2 + 1) 83 5 [some (.ref 40), some (.ref 11), some (.int (nI n)), some (.int (nI e)), some (.int (nI j - 1))] [] σ Q = Q (some (.int (nI (edN t g n L j e)))) σ := by
    intro j
    induction j with
    | zero =>
      intro e _ _
      have hlt : (nI 0 - 1 < 0) = True := eq_true (by decide)
      rw [e83_5]
      simp only [e83_7, e83_10, e83_11, e83_14, e83_15, e83_16, e83_18, e83_21, e83_24, e83_25, e83_26, e83_28, e83_29, e83_30, e83_33, e83_34, e83_37, e83_40, e83_41, true_or, or_true, true_and, and_true, Option.toList, List.cons_append, List.nil_append, if_true, if_false, reduceIte, hlt]
      rfl
    | succ j ih =>
      intro e hj he
      have hpos : (nI j < 0) = False := eq_false (nI_pos (by omega))
      rw [e83_5]
      simp only [edN]
      cases hb : L.testBit j
      · simp only [e83_7, e83_10, e83_11, e83_14, e83_15, e83_16, e83_18, e83_21, e83_24, e83_25, e83_26, e83_28, e83_29, e83_30, e83_33, e83_34, e83_37, true_or, or_true, true_and, and_true, Option.toList, List.cons_append, List.nil_append, if_true, if_false, reduceIte, dn_s, hpos, sk40, sr40_1, sk44, sn44, in_eq (j := n) (n := 256) (by omega) (by decide), nI_clamp (n := n) (by omega), h44, c32 (s := v) (k := j) (by omega) (by omega), hvb j (by omega), hb, bI_0, dn_m, Bool.false_eq_true]
        exact ih e (by omega) he
      · have c84' := fun Q => c84 (d := d) (p := j) (n := n) (e0 := e) (g := g) (σ := σ) (Q := Q) ht htd hn (by omega) he (fun s hs e2 hb2 => hg s hs (by rw [e2]; exact hb) hb2) hg2
        simp only [e83_7, e83_10, e83_11, e83_14, e83_15, e83_16, e83_18, e83_21, e83_24, e83_25, e83_26, e83_28, e83_29, e83_30, e83_33, e83_34, e83_37, true_or, or_true, true_and, and_true, Option.toList, List.cons_append, List.nil_append, if_true, if_false, reduceIte, dn_s, hpos, sk40, sr40_1, sk44, sn44, in_eq (j := n) (n := 256) (by omega) (by decide), nI_clamp (n := n) (by omega), h44, c32 (s := v) (k := j) (by omega) (by omega), hvb j (by omega), hb, bI_0, Bool.true_eq_false, c84', dn_m]
        exact ih _ (by omega) (chc_lt _ _ he hg2)
  simp only [e83_0, e83_1, e83_2, e83_3, true_or, or_true, true_and, and_true, Option.toList, List.cons_append, List.nil_append, if_true, if_false, reduceIte]
  exact key 6 n (by omega) (by omega)
set_option maxHeartbeats 8000000 in
/-- Contest.goOnFrom -/
theorem c82 {d k v L : Nat} {σ : ab_St} {Q : Option Value → ab_St → Prop} (ht : tok t) (htd : tdV σ 11 t) (hk : k < 2 ^ tS t) (h44 : σ.1 44 k = nI v) (hv : v < 256) (hvb : ∀ p, p < 6 → v.testBit p = L.testBit p)
    (hQ : ∀ τ, ch [44] σ τ → (∀ m, τ.1 44 m = σ.1 44 m ∨ (k < m ∧ τ.1 44 m = 64)) → (∀ s, s < tS t → k.testBit s = false → L.testBit (tw t s) = true → τ.1 44 (k ||| 2 ^ s) = 64) → Q none τ) :
    Ev (d + 1) 82 0 [some (.ref 40), some (.ref 11), some (.int (nI k)), none] [] σ Q := by
  have h8 := ht.2.1
  have h256 := two_le8 _ h8
  have key : ∀ (m i : Nat) (τ : ab_St), i + m = tS t → ch [44] σ τ → (∀ m, τ.1 44 m = σ.1 44 m ∨ (k < m ∧ τ.1 44 m = 64)) → (∀ s, s < i → k.testBit s = false → L.testBit (tw t s) = true → τ.1 44 (k ||| 2 ^ s) = 64) → Ev (d + 1) 82 2 [some (.ref 40), some (.ref 11), some (.int (nI k)), some (.int (nI i))] [] τ Q := by
    intro m
    induction m with
    | zero =>
      intro i τ hi hc h1 h2
      have hi2 : i = tS t := by omega
      subst hi2
      have v5 : τ.1 11 5 = nI (tS t) := by rw [hc.1 11 (by decide)]; exact htd.2.1
      have hge : (nI (tS t) ≤ nI (tS t)) = True := eq_true (nI_le (Nat.le_refl _) (by omega))
      rw [e82_2]
      simp only [e82_3, e82_4, e82_7, e82_10, e82_11, e82_12, e82_15, e82_18, e82_19, e82_22, e82_23, e82_24, e82_25, e82_28, e82_29, e82_30, e82_33, e82_36, e82_37, e82_40, e82_41, e82_42, e82_43, e82_44, e82_45, e82_47, e82_48, e82_51, e82_54, true_or, or_true, true_and, and_true, Option.toList, List.cons_append, List.nil_append, if_true, if_false, reduceIte, sk11, v5, hge]
      exact hQ τ hc h1 h2
    | succ m ih =>
      intro i τ hi hc h1 h2
      have his : i < tS t := by omega
      have v5 : τ.1 11 5 = nI (tS t) := by rw [hc.1 11 (by decide)]; exact htd.2.1
      have d3 := htd.2.2 i his
      rw [sr11_0] at d3
      have w12 : τ.1 12 i = nI (tw t i) := by rw [hc.1 12 (by decide)]; exact d3.1
      have hw := (ht.2.2 i his).1
      have hP := ht.1
      have v44 : τ.1 44 k = nI v := by
        rcases h1 k with e | e
        · rw [e]; exact h44
        · omega
      have hge : (nI (tS t) ≤ nI i) = False := eq_false (nI_ge his (by omega))
      rw [e82_2]
      cases b1 : k.testBit i
      · cases b2 : L.testBit (tw t i)
        · simp only [e82_3, e82_4, e82_7, e82_10, e82_11, e82_12, e82_15, e82_18, e82_19, e82_22, e82_23, e82_24, e82_25, e82_28, e82_29, e82_30, e82_33, e82_36, e82_37, e82_40, e82_41, e82_42, e82_43, e82_44, e82_45, e82_47, e82_48, e82_51, true_or, or_true, true_and, and_true, Option.toList, List.cons_append, List.nil_append, if_true, if_false, reduceIte, sk11, sk12, sn12, sr11_0, sk40, sr40_1, sk44, sn44, v5, hge, c32 (s := k) (k := i) (by omega) (by omega), b1, bI_0, in_eq (j := k) (n := 256) (by omega) (by decide), nI_clamp (n := k) (by omega), v44, in_eq (j := i) (n := 8) (by omega) (by decide), nI_clamp (n := i) (by omega), w12, c32 (s := v) (k := tw t i) (by omega) (by omega), hvb (tw t i) (by omega), b2, nI_1]
          refine ih (i + 1) τ (by omega) hc h1 (fun s hs hb hL => ?_)
          by_cases e : s = i
          · subst e; rw [b2] at hL; exact absurd hL (by decide)
          · exact h2 s (by omega) hb hL
        · have hx : k ||| 2 ^ i < 256 := Nat.lt_of_lt_of_le (or_lt hk his) h256
          simp only [e82_3, e82_4, e82_7, e82_10, e82_11, e82_12, e82_15, e82_18, e82_19, e82_22, e82_23, e82_24, e82_25, e82_28, e82_29, e82_30, e82_33, e82_36, e82_37, e82_40, e82_41, e82_42, e82_43, e82_44, e82_45, e82_47, e82_48, e82_51, true_or, or_true, true_and, and_true, Option.toList, List.cons_append, List.nil_append, if_true, if_false, reduceIte, sk11, sk12, sn12, sr11_0, sk40, sr40_1, sk44, sn44, v5, hge, c32 (s := k) (k := i) (by omega) (by omega), b1, bI_0, in_eq (j := k) (n := 256) (by omega) (by decide), nI_clamp (n := k) (by omega), v44, in_eq (j := i) (n := 8) (by omega) (by decide), nI_clamp (n := i) (by omega), w12, c32 (s := v) (k := tw t i) (by omega) (by omega), hvb (tw t i) (by omega), b2, Bool.true_eq_false, nI_set (a := k) (k := i) (by omega) (by omega), in_eq (j := k ||| 2 ^ i) (n := 256) hx (by decide), nI_clamp (n := k ||| 2 ^ i) (by omega), nI_1]
          refine ih (i + 1) _ (by omega) (ch_w hc (by decide)) (fun m => ?_) (fun s hs hb hL => ?_)
          · rw [wI_eq]
            by_cases e : m = k ||| 2 ^ i
            · rw [e, upd_eq]; exact Or.inr ⟨or_gt b1, rfl⟩
            · rw [upd_ne _ _ e]; exact h1 m
          · rw [wI_eq]
            by_cases e : k ||| 2 ^ s = k ||| 2 ^ i
            · rw [e, upd_eq]
            · rw [upd_ne _ _ e]
              refine h2 s ?_ hb hL
              by_cases e2 : s = i
              · exact absurd (by rw [e2]) e
              · omega
      · simp only [e82_3, e82_4, e82_7, e82_10, e82_11, e82_12, e82_15, e82_18, e82_19, e82_22, e82_23, e82_24, e82_25, e82_28, e82_29, e82_30, e82_33, e82_36, e82_37, e82_40, e82_41, e82_42, e82_43, e82_44, e82_45, e82_47, e82_48, e82_51, true_or, or_true, true_and, and_true, Option.toList, List.cons_append, List.nil_append, if_true, if_false, reduceIte, sk11, v5, hge, c32 (s := k) (k := i) (by omega) (by omega), b1, bI_0, Bool.true_eq_false, nI_1]
        refine ih (i + 1) τ (by omega) hc h1 (fun s hs hb hL => ?_)
        by_cases e : s = i
        · subst e; rw [b1] at hb; exact absurd hb (by decide)
        · exact h2 s (by omega) hb hL
  simp only [e82_0, e82_1]
  exact key (tS t) 0 σ (by omega) (ch_rf _ σ) (fun m => Or.inl rfl) (fun s hs => by omega)
/-- what Contest.spread finds at n -/
def SE1 (τ : ab_St) (t : gT) (f : Nat → Nat) (th sd n : Nat) : Prop := τ.1 44 n = 0 ∨ (τ.1 44 n = nI (64 ||| lst th (fwd t f sd n)) ∧ ∀ s, s < tS t → n.testBit s = false → (lst th (fwd t f sd n)).testBit (tw t s) = true → τ.1 44 (n ||| 2 ^ s) ≠ 0)
set_option maxHeartbeats 8000000 in
/-- Contest.spread -/
theorem c81 {d : Nat} {σ : ab_St} {Q : Option Value → ab_St → Prop} (ht : tok t) (htd : tdV σ 11 t) (h17 : ∀ p, p < tP t → σ.1 17 p = nI (f p)) (h161 : σ.1 16 1 = nI th) (hth : th < 2 ^ tP t) (h162 : σ.1 16 2 = nI sd) (hsd : sd < 2 ^ tS t) (hf : ∀ p, p < tP t → f p ≤ 90000)
    (hQ : ∀ τ, ch [42, 43, 44] σ τ → τ.1 44 sd ≠ 0 → (∀ n, sd ≤ n → n < 2 ^ tS t → SE1 τ t f th sd n) → Q none τ) : Ev (d + 3) 81 0 [some (.ref 40), some (.ref 11), some (.ref 16), none] [] σ Q := by
  have h8 := ht.2.1
  have h6 := ht.1
  have h256 := two_le8 _ h8
  have key : ∀ (m k : Nat) (τ : ab_St), k + m = 2 ^ tS t → sd ≤ k → ch [42, 43, 44] σ τ → τ.1 44 sd ≠ 0 → (∀ n, n < k → sd ≤ n → SE1 τ t f th sd n) → (∀ n, k ≤ n → n < 256 → τ.1 44 n = 0 ∨ τ.1 44 n = 64) → Ev (d + 2 + 1) 81 24 [some (.ref 40), some (.ref 11), some (.ref 16), some (.int (nI k))] [] τ Q := by
    intro m
    induction m with
    | zero =>
      intro k τ hk hsk hc h0 h1 h2
      have hk2 : k = 2 ^ tS t := by omega
      subst hk2
      have v5 : τ.1 11 5 = nI (tS t) := by rw [hc.1 11 (by decide)]; exact htd.2.1
      have hge : (nI (2 ^ tS t) ≤ nI (2 ^ tS t)) = True := eq_true (nI_le (Nat.le_refl _) (by omega))
      rw [e81_24]
      simp only [e81_25, e81_26, e81_27, e81_30, e81_31, e81_34, e81_35, e81_38, e81_39, e81_40, e81_43, e81_44, e81_47, e81_48, e81_49, e81_50, e81_51, e81_54, e81_55, e81_56, e81_57, e81_60, e81_61, e81_62, e81_63, e81_64, e81_65, e81_68, e81_71, e81_74, true_or, or_true, true_and, and_true, Option.toList, List.cons_append, List.nil_append, if_true, if_false, reduceIte, sk11, v5, nI_shl (k := tS t) (by omega), hge]
      exact hQ τ hc h0 (fun n q1 q2 => h1 n q2 q1)
    | succ m ih =>
      intro k τ hk hsk hc h0 h1 h2
      have hk2 : k < 2 ^ tS t := by omega
      have v5 : τ.1 11 5 = nI (tS t) := by rw [hc.1 11 (by decide)]; exact htd.2.1
      have hge : (nI (2 ^ tS t) ≤ nI k) = False := eq_false (nI_ge hk2 (by omega))
      have ek := in_eq (j := k) (n := 256) (by omega) (by decide)
      have ck := nI_clamp (n := k) (by omega)
      rw [e81_24]
      rcases h2 k (Nat.le_refl _) (by omega) with v0 | v64
      · simp only [e81_25, e81_26, e81_27, e81_30, e81_31, e81_34, e81_35, e81_38, e81_39, e81_40, e81_43, e81_44, e81_47, e81_48, e81_49, e81_50, e81_51, e81_54, e81_55, e81_56, e81_57, e81_60, e81_61, e81_62, e81_63, e81_64, e81_65, e81_68, e81_71, true_or, or_true, true_and, and_true, Option.toList, List.cons_append, List.nil_append, if_true, if_false, reduceIte, sk11, sk40, sr40_1, sk44, sn44, v5, nI_shl (k := tS t) (by omega), hge, ek, ck, v0, nI_1]
        refine ih (k + 1) τ (by omega) (by omega) hc h0 (fun n hn hs => ?_) (fun n hn hn2 => h2 n (by omega) hn2)
        by_cases e : n = k
        · subst e; exact Or.inl v0
        · exact h1 n (by omega) hs
      · have v16 : τ.1 16 = σ.1 16 := hc.1 16 (by decide)
        simp only [e81_25, e81_26, e81_27, e81_30, e81_31, e81_34, e81_35, e81_38, e81_39, e81_40, e81_43, e81_44, e81_47, e81_48, e81_49, e81_50, e81_51, e81_54, e81_55, e81_56, e81_57, true_or, or_true, true_and, and_true, Option.toList, List.cons_append, List.nil_append, if_true, if_false, reduceIte, sk11, sk40, sk41, sr40_0, sr40_1, sk44, sn44, v5, nI_shl (k := tS t) (by omega), hge, ek, ck, v64, show ((64 : Int32) = 0) = False from eq_false (by decide)]
        refine c66 (c := 42) (w := 43) sk41 sr41_0 sk42 sr42_0 sk43 sn43 (by decide) (by decide) ht (tdV_ag htd (fun c hcc => hc.1 c (by revert c; decide))) (by rw [hc.1 17 (by decide)]; exact h17) (by rw [v16]; exact h161) hth (by rw [v16]; exact h162) (by omega) (by omega) hf (fun υ cυ => ?_)
        have hL := lst_lt th (fwd t f sd k)
        generalize hLL : lst th (fwd t f sd k) = L at hL
        have ev : (64 : Int32) ||| nI L = nI (64 ||| L) := nI_or (a := 64) (by decide) (by omega)
        have hv : 64 ||| L < 128 := Nat.or_lt_two_pow (n := 7) (by decide) (by omega)
        have hvb : ∀ p, p < 6 → (64 ||| L).testBit p = L.testBit p := fun p hp => by
          rw [Nat.testBit_or, show (64 : Nat) = 2 ^ 6 from rfl, Nat.testBit_two_pow, decide_eq_false (by omega), Bool.false_or]
        have cυ' : ch [42, 43, 44] σ υ := ch_tr hc (ch_sub cυ (by decide))
        have u44 : υ.1 44 = τ.1 44 := cυ.1 44 (by decide)
        simp only [e81_60, e81_61, e81_62, e81_63, e81_64, e81_65, true_or, or_true, true_and, and_true, Option.toList, List.cons_append, List.nil_append, if_true, if_false, reduceIte, sk40, sk44, sn44, ek, ck, ev]
        refine c82 (L := L) ht (tdV_ag htd (fun c hcc => (ch_w (g := upd (υ.1 44) k (nI (64 ||| L))) (c := 44) cυ' (by decide)).1 c (by revert c; decide))) hk2 (v := 64 ||| L) (by rw [wI_eq, upd_eq]) (by omega) hvb (fun ψ cψ p1 p2 => ?_)
        simp only [e81_68, e81_71, true_or, or_true, true_and, and_true, Option.toList, List.cons_append, List.nil_append, if_true, if_false, reduceIte, nI_1]
        have ψk : ψ.1 44 k = nI (64 ||| L) := by
          rcases p1 k with e | e
          · rw [e, wI_eq, upd_eq]
          · omega
        have ne0 : nI (64 ||| L) ≠ 0 := fun e => by
          have := nI_inj (a := 64 ||| L) (b := 0) (by omega) (by decide) e
          have h64 : (64 : Nat) ≤ 64 ||| L := Nat.left_le_or
          omega
        have keep : ∀ n, τ.1 44 n ≠ 0 → ψ.1 44 n ≠ 0 := fun n hn => by
          rcases p1 n with e | ⟨_, e⟩
          · rw [e, wI_eq]
            by_cases e2 : n = k
            · rw [e2, upd_eq]; exact ne0
            · rw [upd_ne _ _ e2, u44]; exact hn
          · rw [e]; decide
        refine ih (k + 1) ψ (by omega) (by omega) (ch_tr (ch_w cυ' (by decide)) (ch_sub cψ (by decide))) (keep sd h0) (fun n hn hs => ?_) (fun n hn hn2 => ?_)
        · by_cases e : n = k
          · subst e
            refine Or.inr ⟨by rw [hLL]; exact ψk, fun s hs2 hb hLb => ?_⟩
            rw [hLL] at hLb
            rw [p2 s hs2 hb hLb]
            decide
          · have hlt : n < k := by omega
            have en : ψ.1 44 n = τ.1 44 n := by
              rcases p1 n with e2 | e2
              · rw [e2, wI_eq, upd_ne _ _ e, u44]
              · omega
            rcases h1 n hlt hs with q | ⟨q1, q2⟩
            · exact Or.inl (by rw [en]; exact q)
            · exact Or.inr ⟨by rw [en]; exact q1, fun s hs2 hb hLb => keep _ (q2 s hs2 hb hLb)⟩
        · rcases p1 n with e2 | ⟨_, e2⟩
          · rw [e2, wI_eq, upd_ne _ _ (by omega), u44]
            exact h2 n (by omega) hn2
          · exact Or.inr e2
  have es := in_eq (j := sd) (n := 256) (by omega) (by decide)
  have cs := nI_clamp (n := sd) (by omega)
  simp only [e81_0, e81_1, e81_4, e81_5, e81_8, e81_9, e81_12, e81_13, e81_16, e81_18, e81_19, e81_20, e81_23, true_or, or_true, true_and, and_true, Option.toList, List.cons_append, List.nil_append, if_true, if_false, reduceIte, wI_get, upd_get, Nat.reduceEqDiff, reduceIte, if_true, if_false, sk40, sk16, sr40_1, sk44, sn44, c17 (c := 44) (n := 256) sk44 sn44 (by decide), h162, es, cs]
  refine key (2 ^ tS t - sd) sd _ (by omega) (Nat.le_refl _) ?_ ?_ (fun n hn hs => by omega) (fun n hn hn2 => ?_)
  · repeat (first | exact ch_rf _ _ | refine ch_w ?_ (by decide))
  · simp only [wI_get, upd_get, Nat.reduceEqDiff, reduceIte, if_true, if_false]; decide
  · by_cases e : n = sd
    · subst e; simp only [wI_get, upd_get, Nat.reduceEqDiff, reduceIte, if_true, if_false]; exact Or.inr trivial
    · simp only [wI_get, upd_get, Nat.reduceEqDiff, reduceIte, if_true, if_false, if_neg e, if_pos hn2]; exact Or.inl trivial
set_option maxHeartbeats 8000000 in
/-- Contest.endOf -/
theorem c80 {d : Nat} {σ : ab_St} {Q : Option Value → ab_St → Prop} (ht : tok t) (htd : tdV σ 11 t) (h17 : ∀ p, p < tP t → σ.1 17 p = nI (f p)) (h161 : σ.1 16 1 = nI th) (hth : th < 2 ^ tP t) (h162 : σ.1 16 2 = nI sd) (hsd : sd < 2 ^ tS t) (hf : ∀ p, p < tP t → f p ≤ 90000)
    (hQ : ∀ τ, ch [42, 43, 44, 45] σ τ → Q (some (.int (nI (EN t f th sd sd)))) τ) : Ev (d + 4) 80 0 [some (.ref 40), some (.ref 11), some (.ref 16), none] [] σ Q := by
  have h8 := ht.2.1
  have h256 := two_le8 _ h8
  simp only [e80_0, e80_1, e80_2, e80_3, true_or, or_true, true_and, and_true, Option.toList, List.cons_append, List.nil_append, if_true, if_false, reduceIte, sk40]
  refine c81 ht htd h17 h161 hth h162 hsd hf (fun τ0 cτ0 hs0 hSE => ?_)
  have v5 : τ0.1 11 5 = nI (tS t) := by rw [cτ0.1 11 (by decide)]; exact htd.2.1
  simp only [e80_6, e80_7, e80_8, e80_11, e80_12, e80_13, e80_14, true_or, or_true, true_and, and_true, Option.toList, List.cons_append, List.nil_append, if_true, if_false, reduceIte, sk11, v5, nI_shl (k := tS t) (by omega)]
  have key : ∀ (m : Nat) (τ : ab_St), sd + m ≤ 2 ^ tS t → ch [45] τ0 τ → (∀ n, sd + m ≤ n → n < 2 ^ tS t → τ0.1 44 n ≠ 0 → τ.1 45 n = nI (EN t f th sd n)) → Ev (d + 3 + 1) 80 15 [some (.ref 40), some (.ref 11), some (.ref 16), some (.int (nI (sd + m) - 1))] [] τ Q := by
    intro m
    induction m with
    | zero =>
      intro τ hk hc hg
      have v2 : τ.1 16 2 = nI sd := by rw [hc.1 16 (by decide), cτ0.1 16 (by decide)]; exact h162
      have hlt : (nI (sd + 0) - 1 < nI sd) = True := by rw [dn_lt (by omega) (by omega)]; exact eq_true (by omega)
      rw [e80_15]
      simp only [e80_16, e80_17, e80_20, e80_23, e80_24, e80_27, e80_28, e80_29, e80_32, e80_33, e80_36, e80_37, e80_38, e80_39, e80_40, e80_43, e80_44, e80_47, e80_50, e80_51, e80_54, e80_55, e80_58, e80_59, true_or, or_true, true_and, and_true, Option.toList, List.cons_append, List.nil_append, if_true, if_false, reduceIte, sk16, v2, hlt, sk40, sr40_2, sk45, sn45, in_eq (j := sd) (n := 256) (by omega) (by decide), nI_clamp (n := sd) (by omega), hg sd (by omega) hsd hs0]
      exact hQ τ (ch_tr (ch_sub cτ0 (by decide)) (ch_sub hc (by decide)))
    | succ m ih =>
      intro τ hk hc hg
      have v2 : τ.1 16 2 = nI sd := by rw [hc.1 16 (by decide), cτ0.1 16 (by decide)]; exact h162
      have hlt : (nI (sd + m) < nI sd) = False := eq_false (fun h => by
        have := Int32.lt_iff_toInt_lt.mp h
        rw [nI_toInt (by omega), nI_toInt (by omega)] at this
        omega)
      have e0 : nI (sd + (m + 1)) - 1 = nI (sd + m) := dn_s (sd + m)
      have e1 : nI (sd + m) + (-1) = nI (sd + m) - 1 := dn_m (sd + m)
      generalize hkk : sd + m = k at e0 e1 hlt ih
      have hk2 : k < 2 ^ tS t := by omega
      have v44 : τ.1 44 = τ0.1 44 := hc.1 44 (by decide)
      have ek := in_eq (j := k) (n := 256) (by omega) (by decide)
      have ck := nI_clamp (n := k) (by omega)
      rw [e80_15]
      rcases hSE k (by omega) hk2 with v0 | ⟨v1, vc⟩
      · simp only [e80_16, e80_17, e80_20, e80_23, e80_24, e80_27, e80_28, e80_29, e80_32, e80_33, e80_36, e80_37, e80_38, e80_39, e80_40, e80_43, e80_44, e80_47, true_or, or_true, true_and, and_true, Option.toList, List.cons_append, List.nil_append, if_true, if_false, reduceIte, sk16, v2, e0, hlt, sk40, sr40_1, sk44, sn44, ek, ck, v44, v0, e1]
        refine ih τ (by omega) hc (fun n hn hn2 hne => ?_)
        by_cases e : n = k
        · subst e; exact absurd v0 hne
        · exact hg n (by omega) hn2 hne
      · have hL := lst_lt th (fwd t f sd k)
        have hv : 64 ||| lst th (fwd t f sd k) < 128 := Nat.or_lt_two_pow (n := 7) (by decide) (by omega)
        have hvb : ∀ p, p < 6 → (64 ||| lst th (fwd t f sd k)).testBit p = (lst th (fwd t f sd k)).testBit p := fun p hp => by
          rw [Nat.testBit_or, show (64 : Nat) = 2 ^ 6 from rfl, Nat.testBit_two_pow, decide_eq_false (by omega), Bool.false_or]
        have ne0 : (nI (64 ||| lst th (fwd t f sd k)) = 0) = False := eq_false (fun e => by
          have := nI_inj (a := 64 ||| lst th (fwd t f sd k)) (b := 0) (by omega) (by decide) e
          have h64 : (64 : Nat) ≤ 64 ||| lst th (fwd t f sd k) := Nat.left_le_or
          omega)
        have hcσ : ch [42, 43, 44, 45] σ τ := ch_tr (ch_sub cτ0 (by decide)) (ch_sub hc (by decide))
        have c83' := fun Q => c83 (d := d) (n := k) (v := 64 ||| lst th (fwd t f sd k)) (L := lst th (fwd t f sd k)) (g := fun s => EN t f th sd (k ||| 2 ^ s)) (σ := τ) (Q := Q) ht (tdV_ag htd (fun c hcc => hcσ.1 c (by revert c; decide))) hk2 (by rw [v44]; exact v1) (by omega) hvb (fun s hs hLb hb => hg _ (by have := or_gt hb; omega) (or_lt hk2 hs) (vc s hs hb hLb)) (fun s hs => Nat.lt_of_lt_of_le (EN_lt (or_lt hk2 hs)) h256)
        rw [← EN_eq] at c83'
        simp only [e80_16, e80_17, e80_20, e80_23, e80_24, e80_27, e80_28, e80_29, e80_32, e80_33, e80_36, e80_37, e80_38, e80_39, e80_40, e80_43, e80_44, e80_47, true_or, or_true, true_and, and_true, Option.toList, List.cons_append, List.nil_append, if_true, if_false, reduceIte, sk16, v2, e0, hlt, sk40, sr40_1, sr40_2, sk44, sn44, sk45, sn45, ek, ck, v44, v1, ne0, c83', e1]
        refine ih _ (by omega) (ch_w hc (by decide)) (fun n hn hn2 hne => ?_)
        rw [wI_eq]
        by_cases e : n = k
        · rw [e, upd_eq]
        · rw [upd_ne _ _ e]; exact hg n (by omega) hn2 hne
  have := key (2 ^ tS t - sd) τ0 (by omega) (ch_rf _ _) (fun n hn hn2 => by omega)
  rw [show sd + (2 ^ tS t - sd) = 2 ^ tS t by omega] at this
  exact this
end Each
