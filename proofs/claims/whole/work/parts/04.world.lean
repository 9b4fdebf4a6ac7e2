/-! THE WORLD OF THE SMALL MACHINE: its cells at any addresses -/
def ab_cv (ad : Nat → Nat) : Value → Value
  | .ref c => .ref (ad c)
  | .null => .ref (ad 1000)
  | v => v
theorem ab_cv_cat (ad : Nat → Nat) (v : Value) : (ab_cv ad v).category = v.category := by cases v <;> rfl
def ab_ce (ad : Nat → Nat) (cA : Nat → ClassId) (σ : ab_St) (c : Nat) (s : Nat × Nat × List Nat) : va_E :=
  if s.1 < 100 then .inr (s.1, (List.range (ab_nF s.1)).map (fun k => ab_cv ad (ab_fv σ s.1 c k)))
  else if s.1 = 103 then .inl (cA 103, s.2.1, .inr (.inl (σ.2 c)))
  else if s.1 = 104 then .inl (cA 104, s.2.1, .inr (.inr (.inr (.inr (fun j => some (ad (s.2.2.getD j 0)))))))
  else .inl (cA s.1, s.2.1, .inl (σ.1 c))
def ab_w (ad : Nat → Nat) (cA : Nat → ClassId) (σ : ab_St) : va_W := ab_sh.mapIdx (fun c s => (ad c, ab_ce ad cA σ c s))
def ab_tys (cA : Nat → ClassId) : List (ClassId × FieldType) := [(cA 100, .int), (cA 101, .byte), (cA 102, .boolean), (cA 103, .long), (cA 104, .object "SaidLeast$State")]
def ab_Ad (ad : Nat → Nat) : Nat → Prop := fun q => ∃ c, c < 72 ∧ q = ad c
theorem ab_s_at {c : Nat} (h : ab_k c ≠ 999) : ab_sh[c]? = some (ab_s c) := by
  unfold ab_k ab_s at h
  unfold ab_s
  rw [List.getD_eq_getElem?_getD] at h ⊢
  cases hc : ab_sh[c]? with
  | none => rw [hc] at h; exact absurd rfl h
  | some x => rfl
theorem ab_w_at (ad : Nat → Nat) (cA : Nat → ClassId) (σ : ab_St) {c : Nat} (h : ab_k c ≠ 999) : (ab_w ad cA σ)[c]? = some (ad c, ab_ce ad cA σ c (ab_s c)) := by
  unfold ab_w
  rw [List.getElem?_mapIdx, ab_s_at h]
  rfl
theorem ab_ce_congr (ad : Nat → Nat) (cA : Nat → ClassId) {σ τ : ab_St} {c : Nat} (s : Nat × Nat × List Nat) (h1 : σ.1 c = τ.1 c) (h2 : σ.2 c = τ.2 c) : ab_ce ad cA σ c s = ab_ce ad cA τ c s := by
  unfold ab_ce ab_fv
  rw [h1, h2]
theorem ab_w_set (ad : Nat → Nat) (cA : Nat → ClassId) {σ τ : ab_St} {c : Nat} (h : ab_k c ≠ 999) (h1 : ∀ j, j ≠ c → σ.1 j = τ.1 j) (h2 : ∀ j, j ≠ c → σ.2 j = τ.2 j) {x : va_E} (hx : ab_ce ad cA τ c (ab_s c) = x) : (ab_w ad cA σ).set c (ad c, x) = ab_w ad cA τ := by
  subst hx
  apply List.ext_getElem?
  intro j
  rw [List.getElem?_set]
  unfold ab_w
  rw [List.getElem?_mapIdx, List.getElem?_mapIdx]
  by_cases hj : c = j
  · subst hj
    rw [if_pos rfl, ab_s_at h]
    have : c < (List.mapIdx (fun c s => (ad c, ab_ce ad cA σ c s)) ab_sh).length := by
      rw [List.length_mapIdx]
      have := ab_s_at h
      exact (List.getElem?_eq_some_iff.mp this).1
    rw [if_pos this]
    rfl
  · rw [if_neg hj]
    cases ab_sh[j]? with
    | none => rfl
    | some s => simp only [Option.map_some]; rw [ab_ce_congr ad cA s (h1 j (fun e => hj e.symm)) (h2 j (fun e => hj e.symm))]
theorem ab_wI_set (ad : Nat → Nat) (cA : Nat → ClassId) {σ : ab_St} {c : Nat} {f : Nat → Int32} (h : ab_k c ≠ 999) {x : va_E} (hx : ab_ce ad cA (ab_wI σ c f) c (ab_s c) = x) : (ab_w ad cA σ).set c (ad c, x) = ab_w ad cA (ab_wI σ c f) :=
  ab_w_set (σ := σ) (τ := ab_wI σ c f) ad cA h (fun j hj => by show σ.1 j = if j = c then f else σ.1 j; rw [if_neg hj]) (fun j _ => rfl) hx
theorem ab_wL_set (ad : Nat → Nat) (cA : Nat → ClassId) {σ : ab_St} {c : Nat} {f : Nat → Int64} (h : ab_k c ≠ 999) {x : va_E} (hx : ab_ce ad cA (ab_wL σ c f) c (ab_s c) = x) : (ab_w ad cA σ).set c (ad c, x) = ab_w ad cA (ab_wL σ c f) :=
  ab_w_set (σ := σ) (τ := ab_wL σ c f) ad cA h (fun j _ => rfl) (fun j hj => by show σ.2 j = if j = c then f else σ.2 j; rw [if_neg hj]) hx
/-- objects and rows of each kind -/
theorem ab_at_o (ad : Nat → Nat) (cA : Nat → ClassId) (σ : ab_St) {c ci : Nat} (h : ab_k c = ci) (hi : ci < 100) : (ab_w ad cA σ)[c]? = some (ad c, .inr (ci, (List.range (ab_nF ci)).map (fun k => ab_cv ad (ab_fv σ ci c k)))) := by
  rw [ab_w_at ad cA σ (by omega)]
  unfold ab_ce
  have h : (ab_s c).1 = ci := h
  rw [h, if_pos hi]
theorem ab_at_i (ad : Nat → Nat) (cA : Nat → ClassId) (σ : ab_St) {c ci : Nat} (h : ab_k c = ci) (hi : ci = 100 ∨ ci = 101 ∨ ci = 102) : (ab_w ad cA σ)[c]? = some (ad c, .inl (cA ci, ab_n c, .inl (σ.1 c))) := by
  rw [ab_w_at ad cA σ (by omega)]
  unfold ab_ce
  have h : (ab_s c).1 = ci := h
  rw [h, if_neg (by omega), if_neg (by omega), if_neg (by omega)]
  rfl
theorem ab_at_l (ad : Nat → Nat) (cA : Nat → ClassId) (σ : ab_St) {c : Nat} (h : ab_k c = 103) : (ab_w ad cA σ)[c]? = some (ad c, .inl (cA 103, ab_n c, .inr (.inl (σ.2 c)))) := by
  rw [ab_w_at ad cA σ (by omega)]
  unfold ab_ce
  have h : (ab_s c).1 = 103 := h
  rw [h, if_neg (by omega), if_pos rfl]
  rfl
theorem ab_at_q (ad : Nat → Nat) (cA : Nat → ClassId) (σ : ab_St) {c : Nat} (h : ab_k c = 104) : (ab_w ad cA σ)[c]? = some (ad c, .inl (cA 104, ab_n c, .inr (.inr (.inr (.inr (fun j => some (ad (ab_r c j)))))))) := by
  rw [ab_w_at ad cA σ (by omega)]
  unfold ab_ce
  have h : (ab_s c).1 = 104 := h
  rw [h, if_neg (by omega), if_neg (by omega), if_pos rfl]
  rfl
theorem ab_ce_i (ad : Nat → Nat) (cA : Nat → ClassId) (σ : ab_St) {c ci : Nat} (f : Nat → Int32) (h : ab_k c = ci) (hi : ci = 100 ∨ ci = 101 ∨ ci = 102) : ab_ce ad cA (ab_wI σ c f) c (ab_s c) = .inl (cA ci, ab_n c, .inl f) := by
  unfold ab_ce
  have h : (ab_s c).1 = ci := h
  rw [h, if_neg (by omega), if_neg (by omega), if_neg (by omega)]
  simp only [ab_wI, if_pos]
  rfl
theorem ab_ce_l (ad : Nat → Nat) (cA : Nat → ClassId) (σ : ab_St) {c : Nat} (f : Nat → Int64) (h : ab_k c = 103) : ab_ce ad cA (ab_wL σ c f) c (ab_s c) = .inl (cA 103, ab_n c, .inr (.inl f)) := by
  unfold ab_ce
  have h : (ab_s c).1 = 103 := h
  rw [h, if_neg (by omega), if_pos rfl]
  simp only [ab_wL, if_pos]
  rfl
theorem ab_ce_oI (ad : Nat → Nat) (cA : Nat → ClassId) (σ : ab_St) {c ci k : Nat} (x : Int32) (h : ab_k c = ci) (hi : ci < 100) (hk : ab_fk ci k = 0) (hn : k < ab_nF ci) : ab_ce ad cA (ab_wI σ c (upd (σ.1 c) k x)) c (ab_s c) = .inr (ci, ((List.range (ab_nF ci)).map (fun k => ab_cv ad (ab_fv σ ci c k))).set k (.int x)) := by
  unfold ab_ce
  have h : (ab_s c).1 = ci := h
  rw [h, if_pos hi]
  congr 2
  apply List.ext_getElem?
  intro j
  rw [List.getElem?_set, List.getElem?_map, List.getElem?_map, List.length_map, List.length_range]
  by_cases hj : k = j
  · subst hj
    rw [if_pos rfl, if_pos hn, List.getElem?_range hn]
    simp [ab_fv, hk, ab_wI, upd, ab_cv]
  · rw [if_neg hj]
    by_cases hjn : j < ab_nF ci
    · rw [List.getElem?_range hjn]
      have hj' : ¬ j = k := fun e => hj e.symm
      simp [ab_fv, ab_wI, upd, hj']
    · simp [hjn]
theorem ab_ce_oL (ad : Nat → Nat) (cA : Nat → ClassId) (σ : ab_St) {c ci k : Nat} (x : Int64) (h : ab_k c = ci) (hi : ci < 100) (hk : ab_fk ci k = 1) (hn : k < ab_nF ci) : ab_ce ad cA (ab_wL σ c (vp_updL (σ.2 c) k x)) c (ab_s c) = .inr (ci, ((List.range (ab_nF ci)).map (fun k => ab_cv ad (ab_fv σ ci c k))).set k (.long x)) := by
  unfold ab_ce
  have h : (ab_s c).1 = ci := h
  rw [h, if_pos hi]
  congr 2
  apply List.ext_getElem?
  intro j
  rw [List.getElem?_set, List.getElem?_map, List.getElem?_map, List.length_map, List.length_range]
  by_cases hj : k = j
  · subst hj
    rw [if_pos rfl, if_pos hn, List.getElem?_range hn]
    simp [ab_fv, hk, ab_wL, vp_updL, ab_cv]
  · rw [if_neg hj]
    by_cases hjn : j < ab_nF ci
    · rw [List.getElem?_range hjn]
      have hj' : ¬ j = k := fun e => hj e.symm
      simp [ab_fv, ab_wL, vp_updL, hj']
    · simp [hjn]
/-- the locals -/
def ab_lo (ad : Nat → Nat) (ls : ab_Lo) : List (Nat × Value) := (List.range ls.length).filterMap (fun i => match ls[i]? with
  | some (some v) => if v.category = 2 ∧ ls[i + 1]? ≠ some none then none else some (i, ab_cv ad v)
  | _ => none)
theorem ab_lo_mem {ad : Nat → Nat} {ls : ab_Lo} {q : Nat × Value} : q ∈ ab_lo ad ls ↔ ∃ v, ls[q.1]? = some (some v) ∧ (v.category = 2 → ls[q.1 + 1]? = some none) ∧ q.2 = ab_cv ad v := by
  unfold ab_lo
  rw [List.mem_filterMap]
  constructor
  · rintro ⟨i, hi, h⟩
    split at h
    next v hv =>
      by_cases hc : v.category = 2 ∧ ls[i + 1]? ≠ some none
      · rw [if_pos hc] at h; cases h
      · rw [if_neg hc] at h
        cases h
        refine ⟨v, hv, fun h2 => ?_, rfl⟩
        exact Classical.byContradiction fun h3 => hc ⟨h2, h3⟩
    next => cases h
  · rintro ⟨v, hv, h2, h3⟩
    refine ⟨q.1, List.mem_range.mpr ?_, ?_⟩
    · exact (List.getElem?_eq_some_iff.mp hv).1
    · rw [hv]
      simp only
      rw [if_neg (fun h => h.2 (h2 h.1)), ← h3]
theorem ab_has_mono {ls : Array Slot} {nL : Nat} {l l' : List (Nat × Value)} (h : lv_has ls nL l) (hl : ∀ q ∈ l', q ∈ l) : lv_has ls nL l' := ⟨h.1, h.2.1, fun q hq => h.2.2 q (hl q hq)⟩
theorem ab_has_I {ad : Nat → Nat} {la : Array Slot} {nL : Nat} {ls : ab_Lo} {i : Nat} {x : Int32} (h : lv_has la nL (ab_lo ad ls)) (hx : ab_ldI ls i = some x) : la[i]? = some (.val (.int x)) := by
  unfold ab_ldI at hx
  split at hx
  next y hy => cases hx; exact h.2.2 (i, .int x) (ab_lo_mem.mpr ⟨.int x, hy, (fun e => by cases e), rfl⟩)
  next => cases hx
theorem ab_has_R {ad : Nat → Nat} {la : Array Slot} {nL : Nat} {ls : ab_Lo} {i : Nat} {x : Nat} (h : lv_has la nL (ab_lo ad ls)) (hx : ab_ldR ls i = some x) : la[i]? = some (.val (.ref (ad x))) := by
  unfold ab_ldR at hx
  split at hx
  next y hy => cases hx; exact h.2.2 (i, .ref (ad x)) (ab_lo_mem.mpr ⟨.ref x, hy, (fun e => by cases e), rfl⟩)
  next => cases hx
theorem ab_has_L {ad : Nat → Nat} {la : Array Slot} {nL : Nat} {ls : ab_Lo} {i : Nat} {x : Int64} (h : lv_has la nL (ab_lo ad ls)) (hx : ab_ldL ls i = some x) : la[i]? = some (.val (.long x)) := by
  unfold ab_ldL at hx
  split at hx
  next y hy hy2 => cases hx; exact h.2.2 (i, .long x) (ab_lo_mem.mpr ⟨.long x, hy, fun _ => hy2, rfl⟩)
  next => cases hx
theorem ab_st1 {ad : Nat → Nat} {ls : ab_Lo} {i : Nat} {x : Int32} : ∀ q ∈ ab_lo ad (ls.set i (some (.int x))), q ∈ (i, Value.int x) :: (ab_lo ad ls).filter (fun q => !(q.1 == i) && !(q.1 + 1 == i && q.2.category == 2)) := by
  intro q hq
  obtain ⟨v, h1, h2, h3⟩ := ab_lo_mem.mp hq
  rw [List.getElem?_set] at h1 h2
  by_cases hi : i = q.1
  · rw [if_pos hi] at h1
    split at h1
    · cases h1
      refine List.mem_cons.mpr (Or.inl ?_)
      obtain ⟨a, b⟩ := q
      simp only at hi h3 ⊢
      rw [← hi, h3]
      rfl
    · cases h1
  · rw [if_neg hi] at h1
    refine List.mem_cons.mpr (Or.inr (List.mem_filter.mpr ⟨ab_lo_mem.mpr ⟨v, h1, fun hc => ?_, h3⟩, ?_⟩))
    · have := h2 hc
      by_cases hj : i = q.1 + 1
      · rw [if_pos hj] at this
        split at this <;> cases this
      · rw [if_neg hj] at this
        exact this
    · simp only [Bool.and_eq_true, Bool.not_eq_true', beq_eq_false_iff_ne, ne_eq, Bool.and_eq_false_iff]
      refine ⟨fun e => hi e.symm, ?_⟩
      by_cases hj : q.1 + 1 = i
      · right
        rw [h3, ab_cv_cat]
        intro hc
        have := h2 hc
        rw [if_pos hj.symm] at this
        split at this <;> cases this
      · left
        exact hj
theorem ab_st2 {ad : Nat → Nat} {ls : ab_Lo} {i : Nat} {x : Int64} : ∀ q ∈ ab_lo ad ((ls.set i (some (.long x))).set (i + 1) none), q ∈ (i, Value.long x) :: (ab_lo ad ls).filter (fun q => !(q.1 == i) && (!(q.1 == i + 1) && !(q.1 + 1 == i && q.2.category == 2))) := by
  intro q hq
  obtain ⟨v, h1, h2, h3⟩ := ab_lo_mem.mp hq
  rw [List.getElem?_set, List.length_set, List.getElem?_set] at h1 h2
  by_cases hk : i + 1 = q.1
  · rw [if_pos hk] at h1
    split at h1 <;> cases h1
  · rw [if_neg hk] at h1
    by_cases hi : i = q.1
    · rw [if_pos hi] at h1
      split at h1
      · cases h1
        refine List.mem_cons.mpr (Or.inl ?_)
        obtain ⟨a, b⟩ := q
        simp only at hi h3 ⊢
        rw [← hi, h3]
        rfl
      · cases h1
    · rw [if_neg hi] at h1
      refine List.mem_cons.mpr (Or.inr (List.mem_filter.mpr ⟨ab_lo_mem.mpr ⟨v, h1, fun hc => ?_, h3⟩, ?_⟩))
      · have := h2 hc
        rw [if_neg (show ¬ i + 1 = q.1 + 1 by omega)] at this
        by_cases hj : i = q.1 + 1
        · rw [if_pos hj] at this
          split at this <;> cases this
        · rw [if_neg hj] at this
          exact this
      · simp only [Bool.and_eq_true, Bool.not_eq_true', beq_eq_false_iff_ne, ne_eq, Bool.and_eq_false_iff]
        refine ⟨fun e => hi e.symm, fun e => hk e.symm, ?_⟩
        by_cases hj : q.1 + 1 = i
        · right
          rw [h3, ab_cv_cat]
          intro hc
          have := h2 hc
          rw [if_neg (show ¬ i + 1 = q.1 + 1 by omega), if_pos hj.symm] at this
          split at this <;> cases this
        · left
          exact hj
theorem ab_sl_args (ad : Nat → Nat) (as : List Value) : ∀ (b i : Nat) (v : Value), (ab_sl as)[i]? = some (some v) → (b + i, ab_cv ad v) ∈ lv_args b (as.map (ab_cv ad)) := by
  induction as with
  | nil => intro b i v h; simp [ab_sl] at h
  | cons a as ih =>
    intro b i v h
    simp only [ab_sl] at h
    simp only [List.map_cons, lv_args]
    rw [ab_cv_cat]
    by_cases hc : a.category = 2
    · rw [if_pos hc] at h ⊢
      match i, h with
      | 0, h => simp only [List.getElem?_cons_zero, Option.some.injEq] at h; subst h; exact List.mem_cons_self
      | 1, h => simp at h
      | i + 2, h =>
        simp only [List.getElem?_cons_succ] at h
        have := ih (b + 2) i v h
        rw [show b + 2 + i = b + (i + 2) by omega] at this
        exact List.mem_cons_of_mem _ this
    · rw [if_neg hc] at h ⊢
      match i, h with
      | 0, h => simp only [List.getElem?_cons_zero, Option.some.injEq] at h; subst h; exact List.mem_cons_self
      | i + 1, h =>
        simp only [List.getElem?_cons_succ] at h
        have := ih (b + 1) i v h
        rw [show b + 1 + i = b + (i + 1) by omega] at this
        exact List.mem_cons_of_mem _ this
theorem ab_sl_len (ad : Nat → Nat) (as : List Value) : (lg_sl (as.map (ab_cv ad))).length = (ab_sl as).length := by
  induction as with
  | nil => rfl
  | cons a as ih =>
    simp only [List.map_cons, lg_sl, List.flatMap_cons, List.length_append, ab_sl, ab_cv_cat]
    have ih : ((as.map (ab_cv ad)).flatMap fun v => if v.category = 2 then [Slot.val v, Slot.second] else [Slot.val v]).length = (ab_sl as).length := ih
    rw [ih]
    by_cases hc : a.category = 2
    · rw [if_pos hc, if_pos hc]; simp; omega
    · rw [if_neg hc, if_neg hc]; simp; omega
theorem ab_ent_has (ad : Nat → Nat) (as : List Value) {n : Nat} (h : (ab_sl as).length ≤ n) : lv_has ((lg_sl (as.map (ab_cv ad)) ++ List.replicate (n - (lg_sl (as.map (ab_cv ad))).length) Slot.unset).toArray) n (ab_lo ad (ab_ent n as)) := by
  refine ab_has_mono (lv_entry (as.map (ab_cv ad)) (by rw [ab_sl_len]; exact h)) ?_
  intro q hq
  obtain ⟨v, h1, h2, h3⟩ := ab_lo_mem.mp hq
  obtain ⟨i, w⟩ := q
  simp only at h1 h2 h3
  subst h3
  have : (ab_sl as)[i]? = some (some v) := by
    unfold ab_ent at h1
    by_cases hi : i < (ab_sl as).length
    · rw [List.getElem?_append_left hi] at h1; exact h1
    · rw [List.getElem?_append_right (by omega), List.getElem?_replicate] at h1
      split at h1 <;> simp at h1
  have := ab_sl_args ad as 0 i v this
  rw [Nat.zero_add] at this
  exact this
theorem ab_ent_len {n : Nat} {as : List Value} (h : (ab_sl as).length ≤ n) : (ab_ent n as).length = n := by
  unfold ab_ent
  rw [List.length_append, List.length_replicate]
  omega
