/-! WHILE ONE WAS OUT -/
def cvS (C : Nat → Bool) (A : Nat → Int64) (k : Nat) (x : Nat) (s : Int64) : Int64 := s + (if C x = true ∧ x ≤ k then A (k - x) else 0)
/-- one more says so many words -/
def cv (C : Nat → Bool) (A : Nat → Int64) (k : Nat) : Int64 := itn (cvS C A k) 10 0
theorem itn_stop2 {α : Type} (step : Nat → α → α) (a : α) (P : Nat) : ∀ N, P ≤ N → (∀ i b, P ≤ i → i < N → step i b = b) → itn step N a = itn step P a := by
  intro N
  induction N with
  | zero => intro h _; rw [Nat.le_zero.mp h]
  | succ N ih =>
    intro h hs
    by_cases e : P = N + 1
    · rw [e]
    · show step N (itn step N a) = _
      rw [hs N _ (by omega) (by omega), ih (by omega) (fun i b h1 h2 => hs i b h1 (by omega))]
theorem itn_c {α : Type} {step step' : Nat → α → α} (a : α) : ∀ N, (∀ i b, i < N → step i b = step' i b) → itn step N a = itn step' N a := by
  intro N
  induction N with
  | zero => intro _; rfl
  | succ N ih =>
    intro h
    show step N (itn step N a) = step' N (itn step' N a)
    rw [ih (fun i b hi => h i b (by omega)), h N _ (by omega)]
theorem cvS_no {C : Nat → Bool} {A : Nat → Int64} {k x : Nat} {s : Int64} (h : ¬ (C x = true ∧ x ≤ k)) : cvS C A k x s = s := by
  unfold cvS
  rw [if_neg h, Int64.add_zero]
theorem cv_z {C : Nat → Bool} {A : Nat → Int64} {k n : Nat} (h : ∀ x, x < n → ¬ (C x = true ∧ x ≤ k)) : itn (cvS C A k) n 0 = 0 := by
  rw [itn_stop2 (cvS C A k) 0 0 n (by omega) (fun i b _ hi => cvS_no (h i hi))]
  rfl
theorem cv_c {C C' : Nat → Bool} {A A' : Nat → Int64} {k : Nat} (h : ∀ x, x < 10 → C x = C' x) (hA : ∀ j, j ≤ k → A j = A' j) : cv C A k = cv C' A' k := by
  refine itn_c 0 10 (fun i b hi => ?_)
  unfold cvS
  rw [h i hi, hA (k - i) (by omega)]
def chL (L : List Nat) (σ τ : ab_St) : Prop := τ.1 = σ.1 ∧ ∀ c, c ∉ L → τ.2 c = σ.2 c
theorem chL_rf (L : List Nat) (σ : ab_St) : chL L σ σ := ⟨rfl, fun _ _ => rfl⟩
theorem chL_w {L : List Nat} {σ τ : ab_St} {c : Nat} {g : Nat → Int64} (h : chL L σ τ) (hc : c ∈ L) : chL L σ (ab_wL τ c g) := ⟨h.1, fun k hk => by
  have hne : k ≠ c := fun e => hk (e ▸ hc)
  rw [wL_ne τ g hne]
  exact h.2 k hk⟩
theorem chL_tr {L : List Nat} {σ τ υ : ab_St} (h : chL L σ τ) (h2 : chL L τ υ) : chL L σ υ := ⟨h2.1.trans h.1, fun c hc => (h2.2 c hc).trans (h.2 c hc)⟩
theorem chL_sam {L : List Nat} {σ τ : ab_St} (h : chL L σ τ) : sam σ τ := ⟨fun c _ => by rw [h.1], fun k _ => by rw [h.1], by rw [h.1], by rw [h.1]⟩
theorem uL_eq (f : Nat → Int64) (k : Nat) (x : Int64) : vp_updL f k x k = x := if_pos rfl
theorem uL_ne (f : Nat → Int64) {k j : Nat} (x : Int64) (h : j ≠ k) : vp_updL f k x j = f j := if_neg h
theorem ltI {x : Int32} {w : Nat} (hw : w < 2 ^ 31) : (x < nI w) = (x.toInt < (w : Int)) := by
  apply propext
  rw [Int32.lt_iff_toInt_lt, nI_toInt hw]
set_option maxHeartbeats 8000000 in
/-- addWords -/
theorem c91 {d T a : Nat} {to : Int32} {A : Nat → Int64} {σ : ab_St} {Q : Option Value → ab_St → Prop} (hT : T ≤ 54) (ha : a < 1000000) (hto : to.toInt ≤ 9) (hA : ∀ k, k ≤ T → σ.2 47 k = A k)
    (hQ : ∀ τ, chL [47] σ τ → (∀ k, k ≤ T → τ.2 47 k = cv (fun x => decide (a ≤ x ∧ (x : Int) ≤ to.toInt)) A k) → Q none τ) :
    Ev d 91 0 [some (.ref 46), some (.int (nI T)), some (.int (nI a)), some (.int to), none, none, none, none] [] σ Q := by
  generalize hC : (fun x : Nat => decide (a ≤ x ∧ (x : Int) ≤ to.toInt)) = C at hQ
  have hCx : ∀ x, C x = true ↔ a ≤ x ∧ (x : Int) ≤ to.toInt := fun x => by rw [← hC]; exact decide_eq_true_iff
  clear hC
  have key : ∀ (m : Nat) (τ : ab_St) (l5 l6 l7 : Option Value), m ≤ T + 1 → chL [47] σ τ → (∀ k, k < m → τ.2 47 k = A k) → (∀ k, m ≤ k → k ≤ T → τ.2 47 k = cv C A k) → Ev d 91 3 [some (.ref 46), some (.int (nI T)), some (.int (nI a)), some (.int to), some (.int (nI m - 1)), l5, l6, l7] [] τ Q := by
    intro m
    induction m with
    | zero =>
      intro τ l5 l6 l7 _ hc h1 h2
      have hlt : (nI 0 - 1 < 0) = True := eq_true (by decide)
      rw [e91_3]
      simp only [e91_5, e91_63, true_or, or_true, true_and, and_true, Option.toList, List.cons_append, List.nil_append, if_true, if_false, reduceIte, hlt]
      exact hQ τ hc (fun k hk => h2 k (by omega) hk)
    | succ k ih =>
      intro τ l5 l6 l7 hm hc h1 h2
      have hpos : (nI k < 0) = False := eq_false (nI_pos (by omega))
      rw [e91_3]
      simp only [e91_5, e91_8, e91_9, e91_11, e91_12, true_or, or_true, true_and, and_true, Option.toList, List.cons_append, List.nil_append, if_true, if_false, reduceIte, dn_s, hpos]
      have fin : ∀ l7, Ev d 91 48 [some (.ref 46), some (.int (nI T)), some (.int (nI a)), some (.int to), some (.int (nI k)), some (.long (cv C A k)), none, l7] [] τ Q := by
        intro l7
        simp only [e91_48, e91_49, e91_52, e91_54, e91_56, e91_57, e91_60, true_or, or_true, true_and, and_true, Option.toList, List.cons_append, List.nil_append, if_true, if_false, reduceIte, sk46, sr46_0, sk47, sn47, in_eq (j := k) (n := 55) (by omega) (by decide), nI_clamp (n := k) (by omega), dn_m]
        refine ih _ _ _ _ (by omega) (chL_w hc (by decide)) (fun j hj => ?_) (fun j hj hjT => ?_)
        · rw [wL_eq, uL_ne _ _ (by omega)]; exact h1 j (by omega)
        · rw [wL_eq]
          by_cases e : j = k
          · rw [e, uL_eq]
          · rw [uL_ne _ _ e]; exact h2 j (by omega) hjT
      have inner : ∀ (m w : Nat), w + m = 10 → a ≤ w → Ev d 91 14 [some (.ref 46), some (.int (nI T)), some (.int (nI a)), some (.int to), some (.int (nI k)), some (.long (itn (cvS C A k) w 0)), none, some (.int (nI w))] [] τ Q := by
        intro m
        induction m with
        | zero =>
          intro w hw haw
          have e1 : (to < nI w) = True := by rw [ltI (by omega)]; exact eq_true (by omega)
          rw [e91_14]
          simp only [e91_16, e91_17, true_or, or_true, true_and, and_true, Option.toList, List.cons_append, List.nil_append, if_true, if_false, reduceIte, e1]
          have : itn (cvS C A k) w 0 = cv C A k := by unfold cv; rw [show w = 10 by omega]
          rw [this]
          exact fin _
        | succ m ihm =>
          intro w hw haw
          have ex : ¬ (C w = true ∧ w ≤ k) → (∀ x, w ≤ x → ¬ (C x = true ∧ x ≤ k)) → itn (cvS C A k) w 0 = cv C A k := fun _ h => by
            unfold cv
            exact (itn_stop2 (cvS C A k) 0 w 10 (by omega) (fun i b h1 _ => cvS_no (h i h1))).symm
          rw [e91_14]
          by_cases c1 : to.toInt < (w : Int)
          · have e1 : (to < nI w) = True := by rw [ltI (by omega)]; exact eq_true c1
            simp only [e91_16, e91_17, true_or, or_true, true_and, and_true, Option.toList, List.cons_append, List.nil_append, if_true, if_false, reduceIte, e1]
            rw [ex (fun z => by have := (hCx w).mp z.1; omega) (fun x hx z => by have := (hCx x).mp z.1; omega)]
            exact fin _
          · have e1 : (to < nI w) = False := by rw [ltI (by omega)]; exact eq_false c1
            by_cases c2 : k < w
            · have e2 : (nI k < nI w) = True := eq_true (nI_lt c2 (by omega))
              simp only [e91_16, e91_17, e91_20, e91_22, e91_24, true_or, or_true, true_and, and_true, Option.toList, List.cons_append, List.nil_append, if_true, if_false, reduceIte, e1, e2]
              rw [ex (fun z => by omega) (fun x hx z => by omega)]
              exact fin _
            · have e2 : (nI k < nI w) = False := eq_false (fun h => by rw [nI_ltI (by omega) (by omega)] at h; exact c2 h)
              have es : nI k - nI w = nI (k - w) := pk_sub (by omega)
              simp only [e91_16, e91_17, e91_20, e91_22, e91_24, e91_27, e91_29, e91_30, e91_33, e91_35, e91_37, e91_38, e91_39, e91_40, e91_42, e91_45, true_or, or_true, true_and, and_true, Option.toList, List.cons_append, List.nil_append, if_true, if_false, reduceIte, e1, e2, sk46, sr46_0, sk47, sn47, es, in_eq (j := k - w) (n := 55) (by omega) (by decide), nI_clamp (n := k - w) (by omega), h1 (k - w) (by omega), nI_1]
              have hstep : itn (cvS C A k) (w + 1) 0 = itn (cvS C A k) w 0 + A (k - w) := by
                show cvS C A k w (itn (cvS C A k) w 0) = _
                unfold cvS
                rw [if_pos ⟨(hCx w).mpr ⟨haw, by omega⟩, by omega⟩]
              rw [← hstep]
              exact ihm (w + 1) (by omega) (by omega)
      by_cases ha10 : a ≤ 10
      · have hz : itn (cvS C A k) a 0 = 0 := cv_z (fun x hx z => by have := (hCx x).mp z.1; omega)
        have := inner (10 - a) a (by omega) (Nat.le_refl _)
        rw [hz] at this
        exact this
      · have e1 : (to < nI a) = True := by rw [ltI (by omega)]; exact eq_true (by omega)
        rw [e91_14]
        simp only [e91_16, e91_17, true_or, or_true, true_and, and_true, Option.toList, List.cons_append, List.nil_append, if_true, if_false, reduceIte, e1]
        have hz : cv C A k = 0 := cv_z (fun x hx z => by have := (hCx x).mp z.1; omega)
        rw [← hz]
        exact fin _
  have e0 : nI T = nI (T + 1) - 1 := (dn_s T).symm
  simp only [e91_0, e91_1]
  have := key (T + 1) σ none none none (Nat.le_refl _) (chL_rf _ _) (fun k hk => hA k (by omega)) (fun k h1 h2 => by omega)
  rw [← e0] at this
  exact this
/-- p comes to just the level, or above it -/
def cnd (st : Nat) (f : Nat → Nat) (p lv x : Nat) : Bool := if st.testBit p = true then decide (f p + x = lv) else decide (lv < f p + x)
/-- the ways of the first j people -/
def Wy (th st : Nat) (f : Nat → Nat) (lv j : Nat) : Nat → Int64 := itn (fun p A => if th.testBit p = true then cv (cnd st f p lv) A else A) j (fun k => if k = 0 then 1 else 0)
theorem Wy_s (th st : Nat) (f : Nat → Nat) (lv j : Nat) : Wy th st f lv (j + 1) = if th.testBit j = true then cv (cnd st f j lv) (Wy th st f lv j) else Wy th st f lv j := rfl
theorem Wy_stop {th P st : Nat} {f : Nat → Nat} {lv N : Nat} (hth : th < 2 ^ P) (h : P ≤ N) : Wy th st f lv N = Wy th st f lv P := itn_stop _ _ P N h (fun i b hi => by
  rw [if_neg (fun z => by have := bit_lt hth z; omega)])
theorem mx0 {a b : Nat} (ha : a < 1000000) (hb : b < 1000000) : (if (0 : Int32) < nI a - nI b then nI a - nI b else 0) = nI (a - b) := by
  have h1 : (nI a - nI b).toInt = (a : Int) - b := pk_sub_toInt (by omega) (by omega)
  by_cases h : b < a
  · rw [if_pos (by rw [Int32.lt_iff_toInt_lt, h1]; show (0 : Int) < _; omega), pk_sub (by omega)]
  · rw [if_neg (by rw [Int32.lt_iff_toInt_lt, h1]; show ¬ (0 : Int) < _; omega), show a - b = 0 by omega]
    rfl
theorem mn9 {a b : Nat} (ha : a < 1000000) (hb : b < 1000000) : (if nI a - nI b < (9 : Int32) then nI a - nI b else 9).toInt = if (a : Int) - b < 9 then (a : Int) - b else 9 := by
  have h1 : (nI a - nI b).toInt = (a : Int) - b := pk_sub_toInt (by omega) (by omega)
  by_cases h : (a : Int) - b < 9
  · rw [if_pos (by rw [Int32.lt_iff_toInt_lt, h1]; exact h), if_pos h, h1]
  · rw [if_neg (by rw [Int32.lt_iff_toInt_lt, h1]; exact h), if_neg h]
    rfl
theorem sub1 (a b : Nat) : nI a - nI b + 1 = nI (a + 1) - nI b := by
  rw [Int32.sub_eq_add_neg, Int32.sub_eq_add_neg, Int32.add_assoc, Int32.add_comm (-nI b) 1, ← Int32.add_assoc, nI_1]
section Out
variable {f : Nat → Nat} {th st : Nat}
set_option maxHeartbeats 8000000 in
/-- waysAtLevel -/
theorem c88 {d T lv : Nat} {σ : ab_St} {Q : Option Value → ab_St → Prop} (hv : stV σ 16 f th) (hT : T ≤ 54) (hst : st < 64) (hlv : lv < 200000) (hQ : ∀ τ, chL [47] σ τ → Q (some (.long (Wy th st f lv 6 T))) τ) :
    Ev (d + 2) 88 0 [some (.ref 46), some (.ref 16), some (.int (nI T)), some (.int (nI st)), some (.int (nI lv)), none, none, none, none, none] [] σ Q := by
  obtain ⟨v1, v2, v3, v4⟩ := hv
  rw [sr16_0] at v1
  have key : ∀ (m p : Nat) (τ : ab_St) (l6 l7 l8 l9 : Option Value), p + m = 6 → chL [47] σ τ → (∀ k, k ≤ T → τ.2 47 k = Wy th st f lv p k) → Ev (d + 1 + 1) 88 18 [some (.ref 46), some (.ref 16), some (.int (nI T)), some (.int (nI st)), some (.int (nI lv)), some (.int (nI p)), l6, l7, l8, l9] [] τ Q := by
    intro m
    induction m with
    | zero =>
      intro p τ l6 l7 l8 l9 hp hc hW
      have hp6 : p = 6 := by omega
      subst hp6
      have hge : ((6 : Int32) ≤ nI 6) = True := eq_true (nI_le (a := 6) (b := 6) (by decide) (by decide))
      rw [e88_18]
      simp only [e88_20, e88_22, e88_111, e88_112, e88_115, e88_116, e88_117, true_or, or_true, true_and, and_true, Option.toList, List.cons_append, List.nil_append, if_true, if_false, reduceIte, hge, sk46, sr46_0, sk47, sn47, in_eq (j := T) (n := 55) (by omega) (by decide), nI_clamp (n := T) (by omega), hW T (Nat.le_refl _)]
      exact hQ τ hc
    | succ m ih =>
      intro p τ l6 l7 l8 l9 hp hc hW
      have hge : ((6 : Int32) ≤ nI p) = False := eq_false (nI_ge (a := p) (b := 6) (by omega) (by decide))
      have r1 : τ.1 16 1 = nI th := by rw [hc.1]; exact v2
      rw [e88_18]
      cases hb : th.testBit p
      · simp only [e88_20, e88_22, e88_25, e88_26, e88_29, e88_31, e88_34, e88_105, e88_108, true_or, or_true, true_and, and_true, Option.toList, List.cons_append, List.nil_append, if_true, if_false, reduceIte, hge, sk16, r1, c32 (s := th) (k := p) (by omega) (by omega), hb, bI_0, nI_1]
        refine ih (p + 1) τ _ _ _ _ (by omega) hc (fun k hk => ?_)
        rw [Wy_s, hb, if_neg (by decide)]
        exact hW k hk
      · have r17 : τ.1 17 p = nI (f p) := by rw [hc.1]; exact v1 p hb
        have hfp := v4 p hb
        cases hs : st.testBit p
        · have e9 : (if (9 : Int32) < 9 then (9 : Int32) else 9) = 9 := rfl
          simp only [e88_20, e88_22, e88_25, e88_26, e88_29, e88_31, e88_34, e88_37, e88_39, e88_40, e88_43, e88_45, e88_46, e88_47, e88_49, e88_50, e88_52, e88_55, e88_57, e88_59, e88_62, e88_64, e88_67, e88_69, e88_70, e88_71, e88_73, e88_75, e88_78, e88_80, e88_83, e88_85, e88_87, e88_88, e88_89, e88_90, e88_92, e88_95, e88_97, e88_99, e88_102, true_or, or_true, true_and, and_true, Option.toList, List.cons_append, List.nil_append, if_true, if_false, reduceIte, hge, sk16, sr16_0, sk17, sn17, r1, c32 (s := th) (k := p) (by omega) (by omega), hb, bI_0, Bool.true_eq_false, in_eq (j := p) (n := 6) (by omega) (by decide), nI_clamp (n := p) (by omega), r17, c32 (s := st) (k := p) (by omega) (by omega), hs, sub1, mx0 (a := lv + 1) (b := f p) (by omega) (by omega), e9, sk46]
          refine c91 (A := Wy th st f lv p) hT (by omega) (by decide) hW (fun υ cυ wυ => ?_)
          simp only [e88_105, e88_108, true_or, or_true, true_and, and_true, Option.toList, List.cons_append, List.nil_append, if_true, if_false, reduceIte, nI_1]
          refine ih (p + 1) υ _ _ _ _ (by omega) (chL_tr hc cυ) (fun k hk => ?_)
          rw [wυ k hk, Wy_s, hb, if_pos rfl]
          refine cv_c (fun x hx => ?_) (fun _ _ => rfl)
          unfold cnd
          rw [hs, if_neg (by decide)]
          have h9 : (9 : Int32).toInt = 9 := rfl
          rw [h9]
          exact decide_eq_decide.mpr (by omega)
        · simp only [e88_20, e88_22, e88_25, e88_26, e88_29, e88_31, e88_34, e88_37, e88_39, e88_40, e88_43, e88_45, e88_46, e88_47, e88_49, e88_50, e88_52, e88_55, e88_57, e88_59, e88_62, e88_64, e88_67, e88_69, e88_70, e88_71, e88_73, e88_75, e88_78, e88_80, e88_83, e88_85, e88_87, e88_88, e88_89, e88_90, e88_92, e88_95, e88_97, e88_99, e88_102, true_or, or_true, true_and, and_true, Option.toList, List.cons_append, List.nil_append, if_true, if_false, reduceIte, hge, sk16, sr16_0, sk17, sn17, r1, c32 (s := th) (k := p) (by omega) (by omega), hb, bI_0, Bool.true_eq_false, in_eq (j := p) (n := 6) (by omega) (by decide), nI_clamp (n := p) (by omega), r17, c32 (s := st) (k := p) (by omega) (by omega), hs, mx0 (a := lv) (b := f p) (by omega) (by omega), sk46]
          have hmn := mn9 (a := lv) (b := f p) (by omega) (by omega)
          refine c91 (A := Wy th st f lv p) hT (by omega) (by rw [hmn]; split <;> omega) hW (fun υ cυ wυ => ?_)
          simp only [e88_105, e88_108, true_or, or_true, true_and, and_true, Option.toList, List.cons_append, List.nil_append, if_true, if_false, reduceIte, nI_1]
          refine ih (p + 1) υ _ _ _ _ (by omega) (chL_tr hc cυ) (fun k hk => ?_)
          rw [wυ k hk, Wy_s, hb, if_pos rfl]
          refine cv_c (fun x hx => ?_) (fun _ _ => rfl)
          unfold cnd
          rw [hs, if_pos rfl, hmn]
          exact decide_eq_decide.mpr (by split <;> omega)
  have i0 : ab_in 0 55 = True := in_eq (j := 0) (n := 55) (by decide) (by decide)
  simp only [e88_0, e88_1, e88_4, e88_5, e88_8, e88_9, e88_12, e88_13, e88_14, e88_15, e88_16, true_or, or_true, true_and, and_true, Option.toList, List.cons_append, List.nil_append, if_true, if_false, reduceIte, sk46, sr46_0, sk47, sn47, c89 (d := d + 1) (c := 47) (n := 55) sk47 sn47 (by decide), wL_eq, i0, z_clamp]
  refine key 6 0 _ none none none none (by omega) (chL_w (chL_w (chL_rf _ _) (by decide)) (by decide)) (fun k hk => ?_)
  rw [wL_eq]
  show _ = if k = 0 then (1 : Int64) else 0
  by_cases e : k = 0
  · rw [e, uL_eq, if_pos rfl]
  · rw [uL_ne _ _ e, if_neg e, if_pos (by omega)]
theorem fst_no {s : Nat} : ∀ (k i : Nat), (∀ j, i ≤ j → j < i + k → s.testBit j = false) → fst6 s i k = -9 := by
  intro k
  induction k with
  | zero => intro i _; rfl
  | succ k ih =>
    intro i h
    unfold fst6
    rw [h i (Nat.le_refl _) (by omega), if_neg (by decide)]
    exact ih (i + 1) (fun j h1 h2 => h j (by omega) (by omega))
theorem fst_yes {s : Nat} : ∀ (k i j : Nat), i ≤ j → j < i + k → s.testBit j = true → ∃ o, i ≤ o ∧ o < i + k ∧ s.testBit o = true ∧ fst6 s i k = nI o := by
  intro k
  induction k with
  | zero => intro i j h1 h2; omega
  | succ k ih =>
    intro i j h1 h2 h3
    unfold fst6
    cases hb : s.testBit i
    · rw [if_neg (by decide)]
      obtain ⟨o, a1, a2, a3, a4⟩ := ih (i + 1) j (by
        by_cases e : i = j
        · rw [e, h3] at hb; exact absurd hb (by decide)
        · omega) (by omega) h3
      exact ⟨o, by omega, by omega, a3, a4⟩
    · rw [if_pos rfl]
      exact ⟨i, Nat.le_refl _, by omega, hb, rfl⟩
set_option maxHeartbeats 8000000 in
/-- waysWhileOut's loop -/
theorem c86b {d T o : Nat} {σ : ab_St} {Q : Option Value → ab_St → Prop} (hv : stV σ 16 f th) (hT : T ≤ 54) (hst : st < 64) (ho : o < 6) (hto : th.testBit o = true) (hfo : f o < 100000) (hQ : ∀ τ, chL [47] σ τ → Q (some (.long (itn (fun m s => s + Wy th st f (f o + m) 6 T) 10 0))) τ) :
    Ev (d + 3) 86 53 [some (.ref 46), some (.ref 16), some (.int (nI T)), some (.int (nI st)), some (.int (nI o)), some (.long 0), none, some (.int 0)] [] σ Q := by
  have key : ∀ (k m : Nat) (τ : ab_St), m + k = 10 → chL [47] σ τ → Ev (d + 2 + 1) 86 53 [some (.ref 46), some (.ref 16), some (.int (nI T)), some (.int (nI st)), some (.int (nI o)), some (.long (itn (fun m s => s + Wy th st f (f o + m) 6 T) m 0)), none, some (.int (nI m))] [] τ Q := by
    intro k
    induction k with
    | zero =>
      intro m τ hm hc
      have hm10 : m = 10 := by omega
      subst hm10
      have hgt : ((9 : Int32) < nI 10) = True := eq_true (by decide)
      rw [e86_53]
      simp only [e86_55, e86_57, e86_88, e86_90, true_or, or_true, true_and, and_true, Option.toList, List.cons_append, List.nil_append, if_true, if_false, reduceIte, hgt]
      exact hQ τ hc
    | succ k ih =>
      intro m τ hm hc
      have hgt : ((9 : Int32) < nI m) = False := eq_false (fun h => by
        have := Int32.lt_iff_toInt_lt.mp h
        rw [nI_toInt (by omega)] at this
        have h9 : (9 : Int32).toInt = 9 := rfl
        omega)
      have hv' : stV τ 16 f th := by unfold stV; rw [hc.1]; exact hv
      have r17 : τ.1 17 o = nI (f o) := by have := hv'.1 o hto; rw [sr16_0] at this; exact this
      rw [e86_53]
      simp only [e86_55, e86_57, e86_60, e86_62, e86_63, e86_64, e86_65, e86_66, e86_67, e86_70, e86_72, e86_73, e86_75, e86_76, true_or, or_true, true_and, and_true, Option.toList, List.cons_append, List.nil_append, if_true, if_false, reduceIte, hgt, sk16, sr16_0, sk17, sn17, sk46, in_eq (j := o) (n := 6) ho (by decide), nI_clamp (n := o) (by omega), r17, nI_add]
      refine c88 (d := d) hv' hT hst (by omega) (fun υ cυ => ?_)
      simp only [e86_79, e86_80, e86_82, e86_85, true_or, or_true, true_and, and_true, Option.toList, List.cons_append, List.nil_append, if_true, if_false, reduceIte, nI_1]
      exact ih (m + 1) υ (by omega) (chL_tr hc cυ)
  exact key 10 0 σ (by omega) (chL_rf _ _)
end Out
