/-! WHAT GOING THROUGH ALL ORDERS COMES TO -/
def AllD (t : gT) (f : Nat → Nat) (th sd T : Nat) (tg : Int32) (P : Nat → Int32 → Prop) : Nat → Nat → Int32 → Prop
  | 0, _, _ => True
  | k + 1, n, l => ∀ s, s < tS t → okS t f th sd T tg n l s = true → P (n ||| 2 ^ s) (nI s) ∧ AllD t f th sd T tg P k (n ||| 2 ^ s) (nI s)
/-- the first that is found -/
def fsr {B : Type} (g : Nat → Option B) : Nat → Nat → Option B
  | 0, _ => none
  | m + 1, s => match g s with
    | some b => some b
    | none => fsr g m (s + 1)
theorem fsr_some {B : Type} {g : Nat → Option B} {b : B} : ∀ (m s : Nat), fsr g m s = some b → ∃ s', s ≤ s' ∧ s' < s + m ∧ g s' = some b ∧ ∀ s2, s ≤ s2 → s2 < s' → g s2 = none := by
  intro m
  induction m with
  | zero => intro s h; exact absurd h (by simp [fsr])
  | succ m ih =>
    intro s h
    unfold fsr at h
    cases e : g s with
    | some c =>
      rw [e] at h
      exact ⟨s, Nat.le_refl _, by omega, by rw [e]; exact h, fun s2 h1 h2 => by omega⟩
    | none =>
      rw [e] at h
      obtain ⟨s', a1, a2, a3, a4⟩ := ih (s + 1) h
      refine ⟨s', by omega, by omega, a3, fun s2 h1 h2 => ?_⟩
      by_cases e2 : s2 = s
      · rw [e2]; exact e
      · exact a4 s2 (by omega) h2
theorem fsr_none {B : Type} {g : Nat → Option B} : ∀ (m s : Nat), fsr g m s = none ↔ ∀ s2, s ≤ s2 → s2 < s + m → g s2 = none := by
  intro m
  induction m with
  | zero => intro s; exact ⟨fun _ s2 h1 h2 => by omega, fun _ => rfl⟩
  | succ m ih =>
    intro s
    unfold fsr
    cases e : g s with
    | some c =>
      refine ⟨fun h => (by cases h), fun h => ?_⟩
      have := h s (Nat.le_refl _) (by omega)
      rw [e] at this
      cases this
    | none =>
      refine (ih (s + 1)).trans ⟨fun h s2 h1 h2 => ?_, fun h s2 h1 h2 => h s2 (by omega) (by omega)⟩
      by_cases e2 : s2 = s
      · rw [e2]; exact e
      · exact h s2 (by omega) (by omega)
/-- the first row with the top -/
def fpt (t : gT) (f : Nat → Nat) (th sd T : Nat) (tg : Int32) (top : Nat) : Nat → Nat → Int32 → List Nat → Option (List Nat)
  | 0, _, _, _ => none
  | k + 1, n, l, ls => fsr (fun s => if okS t f th sd T tg n l s = true then (if gnd t sd (n ||| 2 ^ s) = top then some (ls ++ [s]) else fpt t f th sd T tg top k (n ||| 2 ^ s) (nI s) (ls ++ [s])) else none) (tS t) 0
section Dfs
variable {t : gT} {f : Nat → Nat} {th sd T : Nat} {la tg : Int32}
theorem AllD_mono {P P' : Nat → Int32 → Prop} (h : ∀ n l, P n l → P' n l) : ∀ (k n : Nat) (l : Int32), AllD t f th sd T tg P k n l → AllD t f th sd T tg P' k n l := by
  intro k
  induction k with
  | zero => intro n l _; trivial
  | succ k ih => intro n l h2 s hs ho; exact ⟨h _ _ (h2 s hs ho).1, ih _ _ (h2 s hs ho).2⟩
theorem okS_iff {n s : Nat} {l : Int32} : okS t f th sd T tg n l s = true ↔ nI s ≠ tg ∧ can t f th sd n l s = true ∧ spt t sd n + tz t s ≤ T := by
  unfold okS
  simp only [Bool.and_eq_true, Bool.not_eq_true', decide_eq_false_iff_not, decide_eq_true_eq, ne_eq]
/-- all that can come about is gone through -/
theorem AllD_Rc {P : Nat → Int32 → Prop} {k : Nat} (hk : un t sd < k) (h : AllD t f th sd T tg P k sd la) {n : Nat} {l : Int32} (hr : Rc t f th sd la n l) : spt t sd n ≤ T → (∀ s, s < tS t → nI s = tg → n.testBit s = false) → ((n = sd ∧ l = la) ∨ P n l) ∧ ∃ k', un t n < k' ∧ AllD t f th sd T tg P k' n l := by
  refine Rc_ind (fun n l => spt t sd n ≤ T → (∀ s, s < tS t → nI s = tg → n.testBit s = false) → ((n = sd ∧ l = la) ∨ P n l) ∧ ∃ k', un t n < k' ∧ AllD t f th sd T tg P k' n l) (fun _ _ => ⟨Or.inl ⟨rfl, rfl⟩, k, hk, h⟩) (fun n l s hr ih hs hc hT htg => ?_) hr
  have hsp := Rc_spt hr hs hc
  obtain ⟨-, k', hk', hA⟩ := ih (by omega) (fun s' hs' e => by
    have := htg s' hs' e
    rw [bit_set] at this
    cases hb : n.testBit s'
    · rfl
    · rw [hb] at this; exact absurd this (by simp))
  have hun := un_add (can_n hc) hs
  cases k' with
  | zero => omega
  | succ k' =>
    have hok : okS t f th sd T tg n l s = true := okS_iff.mpr ⟨fun e => by
      have := htg s hs e
      rw [bit_set] at this
      simp at this, hc, by omega⟩
    have := hA s hs hok
    exact ⟨Or.inr this.1, k', by omega, this.2⟩
theorem fpt_none {top : Nat} : ∀ (k n : Nat) (l : Int32) (ls : List Nat), AllD t f th sd T tg (fun n _ => gnd t sd n < top) k n l → fpt t f th sd T tg top k n l ls = none := by
  intro k
  induction k with
  | zero => intro n l ls _; rfl
  | succ k ih =>
    intro n l ls h
    unfold fpt
    refine (fsr_none _ _).mpr (fun s _ hs => ?_)
    try dsimp only
    split
    next ho =>
      obtain ⟨a1, a2⟩ := h s (by omega) ho
      rw [if_neg (by omega)]
      exact ih _ _ _ a2
    next => rfl
theorem fpt_Gd {top : Nat} : ∀ (k n : Nat) (l : Int32) (ls bl : List Nat), Rc t f th sd la n l → fpt t f th sd T tg top k n l ls = some bl → Gd t f th sd T top n l := by
  intro k
  induction k with
  | zero => intro n l ls bl _ h; exact absurd h (by simp [fpt])
  | succ k ih =>
    intro n l ls bl hr h
    unfold fpt at h
    obtain ⟨s, -, hs, hg, -⟩ := fsr_some _ _ h
    have hs : s < tS t := by omega
    try dsimp only at hg
    split at hg
    next ho =>
      obtain ⟨o1, o2, o3⟩ := okS_iff.mp ho
      have hsp := Rc_spt hr hs o2
      split at hg
      next e => exact Gd_s hs o2 (Gd_0 e (by omega))
      next => exact Gd_s hs o2 (ih _ _ _ _ (Rc_s hr hs o2) hg)
    next => cases hg
theorem Gd_Rc {top n : Nat} {l : Int32} (hr : Rc t f th sd la n l) (h : Gd t f th sd T top n l) : ∃ n' l', Rc t f th sd la n' l' ∧ spt t sd n' ≤ T ∧ gnd t sd n' = top := by
  obtain ⟨k, h⟩ := h
  induction k generalizing n l with
  | zero => exact ⟨n, l, hr, h.2, h.1⟩
  | succ k ih =>
    obtain ⟨s, h1, h2, h3⟩ := h
    exact ih (Rc_s hr h1 h2) h3
theorem fpt_no {top : Nat} (h9 : ∀ s, s < tS t → nI s ≠ tg) : ∀ (k n : Nat) (l : Int32) (ls : List Nat), Rc t f th sd la n l → un t n < k → gnd t sd n ≠ top → fpt t f th sd T tg top k n l ls = none → ¬ Gd t f th sd T top n l := by
  intro k
  induction k with
  | zero => intro n l ls _ h; omega
  | succ k ih =>
    intro n l ls hr hk hne hn hgd
    rcases Gd_inv hgd with z | ⟨s, hs, hc, hg2⟩
    · exact hne z.1
    have hr2 := Rc_s hr hs hc
    have hsp := Rc_spt hr hs hc
    have hle := Gd_spt hr2 hg2
    have hun := un_add (can_n hc) hs
    unfold fpt at hn
    have := (fsr_none _ _).mp hn s (by omega) (by omega)
    try dsimp only at this
    rw [if_pos (okS_iff.mpr ⟨h9 s hs, hc, by omega⟩)] at this
    by_cases e : gnd t sd (n ||| 2 ^ s) = top
    · rw [if_pos e] at this; cases this
    · rw [if_neg e] at this
      exact ih _ _ _ hr2 (by omega) e this hg2
/-- the first row with the top is the one by the first good ones -/
theorem fpt_GR {top : Nat} (h9 : ∀ s, s < tS t → nI s ≠ tg) : ∀ (k n : Nat) (l : Int32) (ls bl : List Nat), Rc t f th sd la n l → un t n < k → gnd t sd n ≠ top → fpt t f th sd T tg top k n l ls = some bl → ∃ r, bl = ls ++ r ∧ GR t f th sd T top r n l ∧ r.length ≤ un t n := by
  intro k
  induction k with
  | zero => intro n l ls bl _ h; omega
  | succ k ih =>
    intro n l ls bl hr hk hne hf
    unfold fpt at hf
    obtain ⟨s, -, hs, hg, hmin⟩ := fsr_some _ _ hf
    have hs : s < tS t := by omega
    try dsimp only at hg hmin
    have hmin2 : ∀ s', s' < s → ¬ (can t f th sd n l s' = true ∧ Gd t f th sd T top (n ||| 2 ^ s') (nI s')) := by
      rintro s' hs' ⟨hc, hg2⟩
      have hr2 := Rc_s hr (by omega) hc
      have hsp := Rc_spt hr (by omega) hc
      have hle := Gd_spt hr2 hg2
      have hun := un_add (can_n hc) (show s' < tS t by omega)
      have := hmin s' (by omega) hs'
      rw [if_pos (okS_iff.mpr ⟨h9 s' (by omega), hc, by omega⟩)] at this
      by_cases e : gnd t sd (n ||| 2 ^ s') = top
      · rw [if_pos e] at this; cases this
      · rw [if_neg e] at this
        exact fpt_no h9 k _ _ _ hr2 (by omega) e this hg2
    split at hg
    next ho =>
      obtain ⟨o1, o2, o3⟩ := okS_iff.mp ho
      have hsp := Rc_spt hr hs o2
      have hun := un_add (can_n o2) hs
      have hr2 := Rc_s hr hs o2
      split at hg
      next e =>
        cases hg
        exact ⟨[s], rfl, ⟨hne, hs, o2, Gd_0 e (by omega), hmin2, Or.inl e⟩, by show 1 ≤ _; omega⟩
      next e =>
        obtain ⟨r, r1, r2, r3⟩ := ih _ _ _ _ hr2 (by omega) e hg
        refine ⟨s :: r, by rw [r1]; simp, ⟨hne, hs, o2, fpt_Gd _ _ _ _ _ hr2 hg, hmin2, r2⟩, by show r.length + 1 ≤ _; omega⟩
    next => cases hg
/-- most: the best so far -/
def upM (t : gT) (sd : Nat) (n : Nat) (_ : Int32) (ls : List Nat) (a : Nat × List Nat) : Nat × List Nat := if a.1 < gnd t sd n then (gnd t sd n, ls) else a
theorem dfs_M : ∀ (k n : Nat) (l : Int32) (ls : List Nat) (a : Nat × List Nat), a.1 ≤ (dfs t f th sd T tg (upM t sd) k n l ls a).1 ∧ AllD t f th sd T tg (fun n' _ => gnd t sd n' ≤ (dfs t f th sd T tg (upM t sd) k n l ls a).1) k n l ∧ ((dfs t f th sd T tg (upM t sd) k n l ls a).1 = a.1 → dfs t f th sd T tg (upM t sd) k n l ls a = a) ∧ (a.1 < (dfs t f th sd T tg (upM t sd) k n l ls a).1 → fpt t f th sd T tg (dfs t f th sd T tg (upM t sd) k n l ls a).1 k n l ls = some (dfs t f th sd T tg (upM t sd) k n l ls a).2) := by
  intro k
  induction k with
  | zero => intro n l ls a; exact ⟨Nat.le_refl _, trivial, fun _ => rfl, fun h => absurd h (Nat.lt_irrefl _)⟩
  | succ k ihk =>
    intro n l ls a
    have inner : ∀ (m s : Nat) (a a' : Nat × List Nat), itf (fun s a => if okS t f th sd T tg n l s = true then dfs t f th sd T tg (upM t sd) k (n ||| 2 ^ s) (nI s) (ls ++ [s]) (upM t sd (n ||| 2 ^ s) (nI s) (ls ++ [s]) a) else a) m s a = a' →
        a.1 ≤ a'.1 ∧ (∀ s', s ≤ s' → s' < s + m → okS t f th sd T tg n l s' = true → gnd t sd (n ||| 2 ^ s') ≤ a'.1 ∧ AllD t f th sd T tg (fun n' _ => gnd t sd n' ≤ a'.1) k (n ||| 2 ^ s') (nI s')) ∧ (a'.1 = a.1 → a' = a) ∧ (a.1 < a'.1 → fsr (fun s => if okS t f th sd T tg n l s = true then (if gnd t sd (n ||| 2 ^ s) = a'.1 then some (ls ++ [s]) else fpt t f th sd T tg a'.1 k (n ||| 2 ^ s) (nI s) (ls ++ [s])) else none) m s = some a'.2) := by
      intro m
      induction m with
      | zero =>
        intro s a a' h
        have h : a = a' := h
        subst h
        exact ⟨Nat.le_refl _, fun s' h1 h2 => by omega, fun _ => rfl, fun h => absurd h (Nat.lt_irrefl _)⟩
      | succ m ihm =>
        intro s a a' h
        unfold itf at h
        try dsimp only at h
        cases ho : okS t f th sd T tg n l s
        · rw [ho, if_neg (by decide)] at h
          obtain ⟨b1, b2, b3, b4⟩ := ihm (s + 1) a a' h
          refine ⟨b1, fun s' h1 h2 h3 => ?_, b3, fun h => ?_⟩
          · by_cases e : s' = s
            · rw [e, ho] at h3; exact absurd h3 (by decide)
            · exact b2 s' (by omega) (by omega) h3
          · unfold fsr
            rw [ho, if_neg (by decide)]
            exact b4 h
        · rw [ho, if_pos rfl] at h
          obtain ⟨c1, c2, c3, c4⟩ := ihk (n ||| 2 ^ s) (nI s) (ls ++ [s]) (upM t sd (n ||| 2 ^ s) (nI s) (ls ++ [s]) a)
          generalize dfs t f th sd T tg (upM t sd) k (n ||| 2 ^ s) (nI s) (ls ++ [s]) (upM t sd (n ||| 2 ^ s) (nI s) (ls ++ [s]) a) = a2 at h c1 c2 c3 c4
          obtain ⟨b1, b2, b3, b4⟩ := ihm (s + 1) a2 a' h
          have u1 : a.1 ≤ (upM t sd (n ||| 2 ^ s) (nI s) (ls ++ [s]) a).1 := by unfold upM; split <;> omega
          have u2 : gnd t sd (n ||| 2 ^ s) ≤ (upM t sd (n ||| 2 ^ s) (nI s) (ls ++ [s]) a).1 := by unfold upM; split <;> omega
          have u3 : (upM t sd (n ||| 2 ^ s) (nI s) (ls ++ [s]) a).1 = a.1 → upM t sd (n ||| 2 ^ s) (nI s) (ls ++ [s]) a = a := by
            unfold upM
            split
            · intro h; dsimp only at h; omega
            · intro _; rfl
          have u4 : a.1 < (upM t sd (n ||| 2 ^ s) (nI s) (ls ++ [s]) a).1 → upM t sd (n ||| 2 ^ s) (nI s) (ls ++ [s]) a = (gnd t sd (n ||| 2 ^ s), ls ++ [s]) := by
            unfold upM
            split
            · intro _; rfl
            · intro h; exact absurd h (Nat.lt_irrefl _)
          generalize upM t sd (n ||| 2 ^ s) (nI s) (ls ++ [s]) a = au at c1 c3 c4 u1 u2 u3 u4
          refine ⟨by omega, fun s' h1 h2 h3 => ?_, fun h => ?_, fun hlt => ?_⟩
          · by_cases e : s' = s
            · subst e
              exact ⟨by omega, AllD_mono (fun n' _ h => by omega) _ _ _ c2⟩
            · exact b2 s' (by omega) (by omega) h3
          · rw [b3 (by omega), c3 (by omega), u3 (by omega)]
          · unfold fsr
            try dsimp only
            rw [ho, if_pos rfl]
            by_cases e2 : a2.1 < a'.1
            · rw [if_neg (by omega), fpt_none k _ _ _ (AllD_mono (fun n' _ h => by omega) _ _ _ c2)]
              exact b4 e2
            · have e3 := b3 (by omega)
              subst e3
              by_cases e4 : au.1 < a'.1
              · rw [if_neg (by omega), c4 e4]
              · have e5 := c3 (by omega)
                have e6 := u4 (by rw [← e5]; exact hlt)
                rw [e5, e6, if_pos rfl]
    obtain ⟨b1, b2, b3, b4⟩ := inner (tS t) 0 a _ rfl
    exact ⟨b1, fun s hs ho => b2 s (by omega) (by omega) ho, b3, b4⟩
/-- soon: the fewest so far -/
def upS (t : gT) (f : Nat → Nat) (th sd s0 : Nat) (n : Nat) (l : Int32) (_ : List Nat) (a : Int32) : Int32 := if can t f th sd n l s0 = true ∧ (a = -9 ∨ nI (spt t sd n) < a) then nI (spt t sd n) else a
def vaS (a : Int32) : Prop := a = -9 ∨ ∃ x, x ≤ 72 ∧ a = nI x
/-- b is no more than a -/
def leS (b a : Int32) : Prop := ∀ y, y ≤ 72 → a = nI y → ∃ y', y' ≤ y ∧ b = nI y'
theorem leS_rf (a : Int32) : leS a a := fun y _ h => ⟨y, Nat.le_refl _, h⟩
theorem leS_tr {a b c : Int32} (h : leS a b) (h2 : leS b c) : leS a c := fun y hy e => by
  obtain ⟨y1, a1, a2⟩ := h2 y hy e
  obtain ⟨y2, b1, b2⟩ := h y1 (by omega) a2
  exact ⟨y2, by omega, b2⟩
theorem upS_all {s0 n : Nat} {l : Int32} {ls : List Nat} {a : Int32} (ht : tok t) (ha : vaS a) : vaS (upS t f th sd s0 n l ls a) ∧ leS (upS t f th sd s0 n l ls a) a ∧ (upS t f th sd s0 n l ls a = a ∨ (can t f th sd n l s0 = true ∧ upS t f th sd s0 n l ls a = nI (spt t sd n))) ∧ (can t f th sd n l s0 = true → ∃ y, y ≤ spt t sd n ∧ upS t f th sd s0 n l ls a = nI y) := by
  have hsp := spt_le ht sd n
  unfold upS
  split
  next h =>
    refine ⟨Or.inr ⟨_, hsp, rfl⟩, fun y hy e => ?_, Or.inr ⟨h.1, rfl⟩, fun _ => ⟨_, Nat.le_refl _, rfl⟩⟩
    rcases h.2 with e2 | e2
    · rw [e2] at e; exact absurd e.symm (nI_m9 (by omega))
    · rw [e, nI_ltI (by omega) (by omega)] at e2
      exact ⟨_, by omega, rfl⟩
  next h =>
    refine ⟨ha, leS_rf a, Or.inl rfl, fun hc => ?_⟩
    rcases ha with e | ⟨x, hx, e⟩
    · exact absurd ⟨hc, Or.inl e⟩ h
    · refine ⟨x, ?_, e⟩
      apply Classical.byContradiction
      intro hn
      exact h ⟨hc, Or.inr (by rw [e]; exact nI_lt (by omega) (by omega))⟩
theorem dfs_S {s0 : Nat} (ht : tok t) : ∀ (k n : Nat) (l : Int32) (ls : List Nat) (a : Int32), Rc t f th sd la n l → vaS a → vaS (dfs t f th sd T tg (upS t f th sd s0) k n l ls a) ∧ leS (dfs t f th sd T tg (upS t f th sd s0) k n l ls a) a ∧ (dfs t f th sd T tg (upS t f th sd s0) k n l ls a = a ∨ ∃ n' l', Rc t f th sd la n' l' ∧ can t f th sd n' l' s0 = true ∧ dfs t f th sd T tg (upS t f th sd s0) k n l ls a = nI (spt t sd n')) ∧ AllD t f th sd T tg (fun n' l' => can t f th sd n' l' s0 = true → ∃ y, y ≤ spt t sd n' ∧ dfs t f th sd T tg (upS t f th sd s0) k n l ls a = nI y) k n l := by
  intro k
  induction k with
  | zero => intro n l ls a _ ha; exact ⟨ha, leS_rf a, Or.inl rfl, trivial⟩
  | succ k ihk =>
    intro n l ls a hr ha
    have inner : ∀ (m s : Nat) (a a' : Int32), s + m ≤ tS t → vaS a → itf (fun s a => if okS t f th sd T tg n l s = true then dfs t f th sd T tg (upS t f th sd s0) k (n ||| 2 ^ s) (nI s) (ls ++ [s]) (upS t f th sd s0 (n ||| 2 ^ s) (nI s) (ls ++ [s]) a) else a) m s a = a' →
        vaS a' ∧ leS a' a ∧ (a' = a ∨ ∃ n' l', Rc t f th sd la n' l' ∧ can t f th sd n' l' s0 = true ∧ a' = nI (spt t sd n')) ∧ (∀ s', s ≤ s' → s' < s + m → okS t f th sd T tg n l s' = true → (can t f th sd (n ||| 2 ^ s') (nI s') s0 = true → ∃ y, y ≤ spt t sd (n ||| 2 ^ s') ∧ a' = nI y) ∧ AllD t f th sd T tg (fun n' l' => can t f th sd n' l' s0 = true → ∃ y, y ≤ spt t sd n' ∧ a' = nI y) k (n ||| 2 ^ s') (nI s')) := by
      intro m
      induction m with
      | zero =>
        intro s a a' hs ha h
        have h : a = a' := h
        subst h
        exact ⟨ha, leS_rf a, Or.inl rfl, fun s' h1 h2 => by omega⟩
      | succ m ihm =>
        intro s a a' hs ha h
        unfold itf at h
        try dsimp only at h
        cases ho : okS t f th sd T tg n l s
        · rw [ho, if_neg (by decide)] at h
          obtain ⟨b1, b2, b3, b4⟩ := ihm (s + 1) a a' (by omega) ha h
          refine ⟨b1, b2, b3, fun s' h1 h2 h3 => ?_⟩
          by_cases e : s' = s
          · rw [e, ho] at h3; exact absurd h3 (by decide)
          · exact b4 s' (by omega) (by omega) h3
        · rw [ho, if_pos rfl] at h
          obtain ⟨o1, o2, o3⟩ := okS_iff.mp ho
          have hr2 := Rc_s hr (show s < tS t by omega) o2
          obtain ⟨u1, u2, u3, u4⟩ := upS_all (t := t) (f := f) (th := th) (sd := sd) (s0 := s0) (n := n ||| 2 ^ s) (l := nI s) (ls := ls ++ [s]) ht ha
          generalize upS t f th sd s0 (n ||| 2 ^ s) (nI s) (ls ++ [s]) a = au at h u1 u2 u3 u4
          obtain ⟨c1, c2, c3, c4⟩ := ihk (n ||| 2 ^ s) (nI s) (ls ++ [s]) au hr2 u1
          generalize dfs t f th sd T tg (upS t f th sd s0) k (n ||| 2 ^ s) (nI s) (ls ++ [s]) au = a2 at h c1 c2 c3 c4
          obtain ⟨b1, b2, b3, b4⟩ := ihm (s + 1) a2 a' (by omega) c1 h
          refine ⟨b1, leS_tr b2 (leS_tr c2 u2), ?_, fun s' h1 h2 h3 => ?_⟩
          · rcases b3 with e | e
            · rcases c3 with e2 | ⟨n', l', q1, q2, q3⟩
              · rcases u3 with e3 | ⟨q1, q2⟩
                · exact Or.inl (by rw [e, e2, e3])
                · exact Or.inr ⟨_, _, hr2, q1, by rw [e, e2, q2]⟩
              · exact Or.inr ⟨n', l', q1, q2, by rw [e, q3]⟩
            · exact Or.inr e
          · by_cases e : s' = s
            · subst e
              refine ⟨fun hc => ?_, AllD_mono (fun n' l' hh hc => ?_) _ _ _ c4⟩
              · obtain ⟨y, y1, y2⟩ := u4 hc
                have := spt_le ht sd (n ||| 2 ^ s')
                obtain ⟨y', z1, z2⟩ := leS_tr b2 c2 y (by omega) y2
                exact ⟨y', by omega, z2⟩
              · obtain ⟨y, y1, y2⟩ := hh hc
                have := spt_le ht sd n'
                obtain ⟨y', z1, z2⟩ := b2 y (by omega) y2
                exact ⟨y', by omega, z2⟩
            · exact b4 s' (by omega) (by omega) h3
    obtain ⟨b1, b2, b3, b4⟩ := inner (tS t) 0 a _ (by omega) ha rfl
    exact ⟨b1, b2, b3, fun s hs ho => b4 s (by omega) (by omega) ho⟩
end Dfs
