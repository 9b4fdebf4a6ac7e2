/-! SPREAD -/
theorem ch_sub {L L' : List Nat} {σ τ : ab_St} (h : ch L σ τ) (hs : ∀ c ∈ L, c ∈ L') : ch L' σ τ := ⟨fun c hc => h.1 c (fun z => hc (hs c z)), h.2⟩
def LV (τ : ab_St) (P : Nat → Nat → Prop) : Prop := ∀ n, n < 256 → ∃ v, v < 512 ∧ τ.1 35 n = nI v ∧ ∀ j, v.testBit j = true ↔ P n j
def SG (τ : ab_St) (t : gT) (sd : Nat) (P : Nat → Nat → Prop) : Prop := ∀ n, n < 256 → (∃ j, P n j) → τ.1 37 n = nI (spt t sd n) ∧ τ.1 38 n = nI (gnd t sd n)
theorem LV_c {τ : ab_St} {P P' : Nat → Nat → Prop} (h : LV τ P) (he : ∀ n j, P n j ↔ P' n j) : LV τ P' := fun n hn => by
  obtain ⟨v, h1, h2, h3⟩ := h n hn
  exact ⟨v, h1, h2, fun j => (h3 j).trans (he n j)⟩
theorem SG_c {τ : ab_St} {t : gT} {sd : Nat} {P P' : Nat → Nat → Prop} (h : SG τ t sd P) (he : ∀ n j, P n j ↔ P' n j) : SG τ t sd P' := fun n hn ⟨j, hj⟩ => h n hn ⟨j, (he n j).mpr hj⟩
theorem LV_e {τ υ : ab_St} {P : Nat → Nat → Prop} (h : LV τ P) (e : υ.1 35 = τ.1 35) : LV υ P := fun n hn => by rw [e]; exact h n hn
theorem SG_e {τ υ : ab_St} {t : gT} {sd : Nat} {P : Nat → Nat → Prop} (h : SG τ t sd P) (e : υ.1 37 = τ.1 37) (e2 : υ.1 38 = τ.1 38) : SG υ t sd P := fun n hn => by rw [e, e2]; exact h n hn
theorem bit_ne0 {v : Nat} (h : v ≠ 0) : ∃ j, v.testBit j = true := by
  apply Classical.byContradiction
  intro hn
  apply h
  apply bits_ext
  intro i
  rw [Nat.zero_testBit]
  cases e : v.testBit i
  · rfl
  · exact absurd ⟨i, e⟩ hn
set_option maxHeartbeats 8000000 in
/-- goOnFrom -/
theorem c68 {d k o : Nat} {t : gT} {sd : Nat} {P : Nat → Nat → Prop} {σ : ab_St} {Q : Option Value → ab_St → Prop} (ht : tok t) (htd : tdV σ 11 t) (hk : k < 2 ^ tS t) (h36 : σ.1 36 k = nI o) (ho : o < 2 ^ tS t) (hob : ∀ s, o.testBit s = true → k.testBit s = false ∧ sd.testBit s = false) (hL : LV σ P) (hG : SG σ t sd P) (hne : ∃ j, P k j)
    (hQ : ∀ τ, ch [35, 37, 38] σ τ → LV τ (fun n j => P n j ∨ (o.testBit j = true ∧ n = k ||| 2 ^ j)) → SG τ t sd (fun n j => P n j ∨ (o.testBit j = true ∧ n = k ||| 2 ^ j)) → Q none τ) : Ev (d + 1) 68 0 [some (.ref 31), some (.ref 11), some (.int (nI k)), none, none] [] σ Q := by
  have h8 := ht.2.1
  have h256 := two_le8 _ h8
  have key : ∀ (m i : Nat) (l4 : Option Value) (τ : ab_St), i + m = tS t → ch [35, 37, 38] σ τ → LV τ (fun n j => P n j ∨ (j < i ∧ o.testBit j = true ∧ n = k ||| 2 ^ j)) → SG τ t sd (fun n j => P n j ∨ (j < i ∧ o.testBit j = true ∧ n = k ||| 2 ^ j)) → Ev (d + 1) 68 2 [some (.ref 31), some (.ref 11), some (.int (nI k)), some (.int (nI i)), l4] [] τ Q := by
    intro m
    induction m with
    | zero =>
      intro i l4 τ hi hc hl hg
      have hi2 : i = tS t := by omega
      subst hi2
      have v5 : τ.1 11 5 = nI (tS t) := by rw [hc.1 11 (by decide)]; exact htd.2.1
      have hge : (nI (tS t) ≤ nI (tS t)) = True := eq_true (nI_le (Nat.le_refl _) (by omega))
      rw [e68_2]
      simp only [e68_3, e68_4, e68_7, e68_10, e68_11, e68_14, e68_15, e68_16, e68_17, e68_20, e68_23, e68_24, e68_25, e68_26, e68_27, e68_28, e68_30, e68_31, e68_34, e68_36, e68_37, e68_38, e68_39, e68_40, e68_41, e68_42, e68_43, e68_44, e68_47, e68_49, e68_50, e68_53, e68_54, e68_55, e68_56, e68_59, e68_60, e68_61, e68_62, e68_63, e68_64, e68_67, e68_69, e68_70, e68_73, e68_74, e68_75, e68_76, e68_79, e68_80, e68_81, e68_82, e68_83, e68_86, e68_89, true_or, or_true, true_and, and_true, Option.toList, List.cons_append, List.nil_append, if_true, if_false, reduceIte, sk11, v5, hge]
      have he : ∀ n j, (P n j ∨ (j < tS t ∧ o.testBit j = true ∧ n = k ||| 2 ^ j)) ↔ (P n j ∨ (o.testBit j = true ∧ n = k ||| 2 ^ j)) := fun n j => or_congr_right ⟨fun z => z.2, fun z => ⟨bit_lt ho z.1, z⟩⟩
      exact hQ τ hc (LV_c hl he) (SG_c hg he)
    | succ m ih =>
      intro i l4 τ hi hc hl hg
      have his : i < tS t := by omega
      have v5 : τ.1 11 5 = nI (tS t) := by rw [hc.1 11 (by decide)]; exact htd.2.1
      have v36 : τ.1 36 k = nI o := by rw [hc.1 36 (by decide)]; exact h36
      have hge : (nI (tS t) ≤ nI i) = False := eq_false (nI_ge his (by omega))
      have ek := in_eq (j := k) (n := 256) (by omega) (by decide)
      have ck := nI_clamp (n := k) (by omega)
      rw [e68_2]
      cases b : o.testBit i
      · simp only [e68_3, e68_4, e68_7, e68_10, e68_11, e68_14, e68_15, e68_16, e68_17, e68_20, e68_23, e68_24, e68_25, e68_26, e68_27, e68_28, e68_30, e68_31, e68_34, e68_36, e68_37, e68_38, e68_39, e68_40, e68_41, e68_42, e68_43, e68_44, e68_47, e68_49, e68_50, e68_53, e68_54, e68_55, e68_56, e68_59, e68_60, e68_61, e68_62, e68_63, e68_64, e68_67, e68_69, e68_70, e68_73, e68_74, e68_75, e68_76, e68_79, e68_80, e68_81, e68_82, e68_83, e68_86, true_or, or_true, true_and, and_true, Option.toList, List.cons_append, List.nil_append, if_true, if_false, reduceIte, sk11, sk31, sr31_2, sk36, sn36, v5, hge, ek, ck, v36, c32 (s := o) (k := i) (by omega) (by omega), b, bI_0, nI_1]
        have he : ∀ n j, (P n j ∨ (j < i ∧ o.testBit j = true ∧ n = k ||| 2 ^ j)) ↔ (P n j ∨ (j < i + 1 ∧ o.testBit j = true ∧ n = k ||| 2 ^ j)) := fun n j => or_congr_right ⟨fun z => ⟨by omega, z.2⟩, fun z => ⟨by
          by_cases e : j = i
          · rw [e, b] at z; exact absurd z.2.1 (by decide)
          · omega, z.2⟩⟩
        exact ih (i + 1) _ τ (by omega) hc (LV_c hl he) (SG_c hg he)
      · have hb := hob i b
        have hx : k ||| 2 ^ i < 256 := Nat.lt_of_lt_of_le (or_lt hk his) h256
        have hgt := or_gt hb.1
        obtain ⟨v, hv1, hv2, hv3⟩ := hl (k ||| 2 ^ i) hx
        obtain ⟨j0, hj0⟩ := hne
        have hgk := hg k (by omega) ⟨j0, Or.inl hj0⟩
        have d3 := htd.2.2 i his
        rw [sr11_1, sr11_2] at d3
        have w13 : τ.1 13 i = nI (tz t i) := by rw [hc.1 13 (by decide)]; exact d3.2.1
        have w14 : τ.1 14 i = nI (tv t i) := by rw [hc.1 14 (by decide)]; exact d3.2.2.1
        have es : spt t sd k + tz t i = spt t sd (k ||| 2 ^ i) := (spt_add hb.1 hb.2 his).symm
        have eg : gnd t sd k + tv t i = gnd t sd (k ||| 2 ^ i) := (gnd_add hb.1 hb.2 his).symm
        simp only [e68_3, e68_4, e68_7, e68_10, e68_11, e68_14, e68_15, e68_16, e68_17, e68_20, e68_23, e68_24, e68_25, e68_26, e68_27, e68_28, e68_30, e68_31, e68_34, e68_36, e68_37, e68_38, e68_39, e68_40, e68_41, e68_42, e68_43, e68_44, e68_47, e68_49, e68_50, e68_53, e68_54, e68_55, e68_56, e68_59, e68_60, e68_61, e68_62, e68_63, e68_64, e68_67, e68_69, e68_70, e68_73, e68_74, e68_75, e68_76, e68_79, e68_80, e68_81, e68_82, e68_83, e68_86, true_or, or_true, true_and, and_true, Option.toList, List.cons_append, List.nil_append, if_true, if_false, reduceIte, wI_get, upd_get, Nat.reduceEqDiff, reduceIte, if_true, if_false, sk11, sk13, sn13, sk14, sn14, sr11_1, sr11_2, sk31, sr31_1, sr31_2, sr31_3, sr31_4, sk35, sn35, sk36, sn36, sk37, sn37, sk38, sn38, v5, hge, ek, ck, v36, c32 (s := o) (k := i) (by omega) (by omega), b, bI_0, Bool.true_eq_false, nI_set (a := k) (k := i) (by omega) (by omega), in_eq (j := k ||| 2 ^ i) (n := 256) hx (by decide), nI_clamp (n := k ||| 2 ^ i) (by omega), hv2, nI_set (a := v) (k := i) (by omega) (by omega), hgk.1, hgk.2, in_eq (j := i) (n := 8) (by omega) (by decide), nI_clamp (n := i) (by omega), w13, w14, nI_add, es, eg, nI_1]
        refine ih (i + 1) _ _ (by omega) (ch_w (ch_w (ch_w hc (by decide)) (by decide)) (by decide)) (fun n hn => ?_) (fun n hn hex => ?_)
        · by_cases e : n = k ||| 2 ^ i
          · subst e
            refine ⟨v ||| 2 ^ i, Nat.or_lt_two_pow (n := 9) hv1 (Nat.pow_lt_pow_right (by decide) (by omega)), ?_, fun j => ?_⟩
            · simp only [wI_get, upd_get, Nat.reduceEqDiff, reduceIte, if_true, if_false]
            · rw [bit_set, Bool.or_eq_true, decide_eq_true_eq, hv3 j]
              constructor
              · rintro ((z | z) | z)
                · exact Or.inl z
                · exact Or.inr ⟨by omega, z.2⟩
                · subst z; exact Or.inr ⟨by omega, b, rfl⟩
              · rintro (z | ⟨z1, z2⟩)
                · exact Or.inl (Or.inl z)
                · by_cases e2 : i = j
                  · exact Or.inr e2
                  · exact Or.inl (Or.inr ⟨by omega, z2⟩)
          · obtain ⟨v', a1, a2, a3⟩ := hl n hn
            refine ⟨v', a1, ?_, fun j => (a3 j).trans (or_congr_right ⟨fun z => ⟨by omega, z.2⟩, fun z => ⟨by
              by_cases e2 : j = i
              · subst e2; exact absurd z.2.2 e
              · omega, z.2⟩⟩)⟩
            simp only [wI_get, upd_get, Nat.reduceEqDiff, reduceIte, if_true, if_false, if_neg e]
            exact a2
        · by_cases e : n = k ||| 2 ^ i
          · subst e
            simp only [wI_get, upd_get, Nat.reduceEqDiff, reduceIte, if_true, if_false]
            exact ⟨trivial, trivial⟩
          · simp only [wI_get, upd_get, Nat.reduceEqDiff, reduceIte, if_true, if_false, if_neg e]
            refine hg n hn ?_
            obtain ⟨j, hj⟩ := hex
            rcases hj with z | ⟨z1, z2, z3⟩
            · exact ⟨j, Or.inl z⟩
            · refine ⟨j, Or.inr ⟨?_, z2, z3⟩⟩
              by_cases e2 : j = i
              · subst e2; exact absurd z3 e
              · omega
  simp only [e68_0, e68_1]
  have he : ∀ n j, P n j ↔ (P n j ∨ (j < 0 ∧ o.testBit j = true ∧ n = k ||| 2 ^ j)) := fun n j => ⟨Or.inl, fun z => z.elim id (fun y => by omega)⟩
  exact key (tS t) 0 none σ (by omega) (ch_rf _ σ) (LV_c hL he) (SG_c hG he)
/-- what spread finds -/
def SPD (τ : ab_St) (t : gT) (f : Nat → Nat) (th sd : Nat) (la : Int32) : Prop := (∀ n, n < 2 ^ tS t → ∃ v, v < 512 ∧ τ.1 35 n = nI v ∧ ∀ j, v.testBit j = true ↔ ∃ l, Rc t f th sd la n l ∧ lb l = j) ∧
  ∀ n l, Rc t f th sd la n l → τ.1 37 n = nI (spt t sd n) ∧ τ.1 38 n = nI (gnd t sd n) ∧ ∃ o, o < 256 ∧ τ.1 36 n = nI o ∧ ∀ s, o.testBit s = true ↔ s < tS t ∧ ∃ l, Rc t f th sd la n l ∧ can t f th sd n l s = true
set_option maxHeartbeats 8000000 in
/-- Orders.spread -/
theorem c63 {d : Nat} {t : gT} {f : Nat → Nat} {th sd : Nat} {la : Int32} {σ : ab_St} {Q : Option Value → ab_St → Prop} (ht : tok t) (htd : tdV σ 11 t) (h17 : ∀ p, p < tP t → σ.1 17 p = nI (f p)) (h161 : σ.1 16 1 = nI th) (hth : th < 2 ^ tP t) (h162 : σ.1 16 2 = nI sd) (hsd : sd < 2 ^ tS t) (h163 : σ.1 16 3 = la) (hla : laok t la) (hf : ∀ p, p < tP t → f p ≤ 90000)
    (hQ : ∀ τ, ch [33, 34, 35, 36, 37, 38] σ τ → SPD τ t f th sd la → Q none τ) : Ev (d + 4) 63 0 [some (.ref 31), some (.ref 11), some (.ref 16), none] [] σ Q := by
  have h8 := ht.2.1
  have h6 := ht.1
  have h256 := two_le8 _ h8
  have hth64 : th < 64 := Nat.lt_of_lt_of_le hth (two_le _ h6)
  have key : ∀ (m k : Nat) (τ : ab_St), k + m = 2 ^ tS t → sd ≤ k → ch [33, 34, 35, 36, 37, 38] σ τ → LV τ (PR t f th sd la k) → SG τ t sd (PR t f th sd la k) → (∀ n l, n < k → Rc t f th sd la n l → ∃ o, o < 256 ∧ τ.1 36 n = nI o ∧ ∀ s, o.testBit s = true ↔ s < tS t ∧ ∃ l, Rc t f th sd la n l ∧ can t f th sd n l s = true) → Ev (d + 3 + 1) 63 49 [some (.ref 31), some (.ref 11), some (.ref 16), some (.int (nI k))] [] τ Q := by
    intro m
    induction m with
    | zero =>
      intro k τ hk hsk hc hl hg ho
      have hk2 : k = 2 ^ tS t := by omega
      subst hk2
      have v5 : τ.1 11 5 = nI (tS t) := by rw [hc.1 11 (by decide)]; exact htd.2.1
      have hge : (nI (2 ^ tS t) ≤ nI (2 ^ tS t)) = True := eq_true (nI_le (Nat.le_refl _) (by omega))
      rw [e63_49]
      simp only [e63_50, e63_51, e63_52, e63_55, e63_56, e63_59, e63_60, e63_63, e63_64, e63_65, e63_68, e63_69, e63_72, e63_73, e63_74, e63_75, e63_76, e63_77, e63_80, e63_81, e63_82, e63_83, e63_84, e63_87, e63_90, e63_93, true_or, or_true, true_and, and_true, Option.toList, List.cons_append, List.nil_append, if_true, if_false, reduceIte, sk11, v5, nI_shl (k := tS t) (by omega), hge]
      refine hQ τ hc ⟨fun n hn => ?_, fun n l hr => ?_⟩
      · obtain ⟨v, a1, a2, a3⟩ := hl n (by omega)
        exact ⟨v, a1, a2, fun j => (a3 j).trans (PR_full ht (by omega))⟩
      · have hn := Rc_lt hsd hr
        have := hg n (by omega) ⟨lb l, (PR_full ht (by omega)).mpr ⟨l, hr, rfl⟩⟩
        exact ⟨this.1, this.2, ho n l hn hr⟩
    | succ m ih =>
      intro k τ hk hsk hc hl hg ho
      have hk2 : k < 2 ^ tS t := by omega
      have v5 : τ.1 11 5 = nI (tS t) := by rw [hc.1 11 (by decide)]; exact htd.2.1
      have hge : (nI (2 ^ tS t) ≤ nI k) = False := eq_false (nI_ge hk2 (by omega))
      have ek := in_eq (j := k) (n := 256) (by omega) (by decide)
      have ck := nI_clamp (n := k) (by omega)
      obtain ⟨v, a1, a2, a3⟩ := hl k (by omega)
      have a4 : ∀ j, v.testBit j = true ↔ ∃ l, Rc t f th sd la k l ∧ lb l = j := fun j => (a3 j).trans (PR_full ht (Nat.le_refl k))
      have PRs : ∀ n j, PR t f th sd la (k + 1) n j ↔ (PR t f th sd la k n j ∨ (j < tS t ∧ (∃ l, Rc t f th sd la k l ∧ can t f th sd k l j = true) ∧ n = k ||| 2 ^ j)) := by
        intro n j
        constructor
        · rintro (z | ⟨m, l, z1, z2, z3, z4, z5⟩)
          · exact Or.inl (Or.inl z)
          · by_cases e : m = k
            · subst e; exact Or.inr ⟨z3, ⟨l, z2, z4⟩, z5⟩
            · exact Or.inl (Or.inr ⟨m, l, by omega, z2, z3, z4, z5⟩)
        · rintro ((z | ⟨m, l, z1, z2⟩) | ⟨z1, ⟨l, z2, z3⟩, z4⟩)
          · exact Or.inl z
          · exact Or.inr ⟨m, l, by omega, z2⟩
          · exact Or.inr ⟨k, l, by omega, z2, z1, z3, z4⟩
      rw [e63_49]
      by_cases v0 : v = 0
      · have hno : ∀ l, ¬ Rc t f th sd la k l := fun l hr => by
          have := (a4 (lb l)).mpr ⟨l, hr, rfl⟩
          rw [v0, Nat.zero_testBit] at this
          exact absurd this (by decide)
        have he : ∀ n j, PR t f th sd la k n j ↔ PR t f th sd la (k + 1) n j := fun n j => by
          rw [PRs]
          exact ⟨Or.inl, fun z => z.elim id (fun y => by obtain ⟨-, ⟨l, hr, -⟩, -⟩ := y; exact absurd hr (hno l))⟩
        subst v0
        simp only [e63_50, e63_51, e63_52, e63_55, e63_56, e63_59, e63_60, e63_63, e63_64, e63_65, e63_68, e63_69, e63_72, e63_73, e63_74, e63_75, e63_76, e63_77, e63_80, e63_81, e63_82, e63_83, e63_84, e63_87, e63_90, true_or, or_true, true_and, and_true, Option.toList, List.cons_append, List.nil_append, if_true, if_false, reduceIte, sk11, sk31, sr31_1, sk35, sn35, v5, nI_shl (k := tS t) (by omega), hge, ek, ck, a2, show (nI 0 = (0 : Int32)) = True from eq_true rfl, nI_1]
        refine ih (k + 1) τ (by omega) (by omega) hc (LV_c hl he) (SG_c hg he) (fun n l hn hr => ?_)
        by_cases e : n = k
        · subst e; exact absurd hr (hno l)
        · exact ho n l (by omega) hr
      · have hv0 : (nI v = (0 : Int32)) = False := eq_false (fun e => v0 (nI_inj (b := 0) (by omega) (by decide) e))
        obtain ⟨j0, hj0⟩ := bit_ne0 v0
        obtain ⟨l0, hr0, hl0⟩ := (a4 j0).mp hj0
        have v16 : τ.1 16 = σ.1 16 := hc.1 16 (by decide)
        simp only [e63_50, e63_51, e63_52, e63_55, e63_56, e63_59, e63_60, e63_63, e63_64, e63_65, e63_68, e63_69, e63_72, e63_73, e63_74, e63_75, e63_76, e63_77, true_or, or_true, true_and, and_true, Option.toList, List.cons_append, List.nil_append, if_true, if_false, reduceIte, sk11, sk31, sr31_1, sr31_2, sk35, sn35, v5, nI_shl (k := tS t) (by omega), hge, ek, ck, a2, hv0]
        refine c65 ht (tdV_ag htd (fun c hcc => hc.1 c (by revert c; decide))) (by rw [hc.1 17 (by decide)]; exact h17) (by rw [v16]; exact h161) hth (by rw [v16]; exact h162) (by omega) (by omega) hf a2 a1 (fun υ cυ => ?_)
        have hob := fun s => opn_bit (f := f) (th := th) (sd := sd) (la := la) (n := k) (v := v) ht hth64 hla a4 ⟨l0, hr0⟩ s
        have holt : opn t f th sd k v < 2 ^ tS t := sof_lt _ _
        generalize opn t f th sd k v = o at hob holt
        have cυ' : ch [33, 34, 35, 36, 37, 38] σ υ := ch_tr hc (ch_sub cυ (by decide))
        simp only [e63_80, e63_81, e63_82, e63_83, e63_84, true_or, or_true, true_and, and_true, Option.toList, List.cons_append, List.nil_append, if_true, if_false, reduceIte, sk31, sk36, sn36, ek, ck]
        generalize hω : ab_wI υ 36 (upd (υ.1 36) k (nI o)) = ω
        have ωc : ch [33, 34, 35, 36, 37, 38] σ ω := by rw [← hω]; exact ch_w cυ' (by decide)
        have ω36 : ω.1 36 = upd (υ.1 36) k (nI o) := by rw [← hω, wI_eq]
        have ωo : ∀ c, c ≠ 36 → ω.1 c = υ.1 c := fun c hcc => by rw [← hω, wI_ne _ _ hcc]
        clear hω
        refine c68 (o := o) (P := PR t f th sd la k) ht (tdV_ag htd (fun c hcc => ωc.1 c (by revert c; decide))) hk2 (by rw [ω36, upd_eq]) holt (fun s hs => ?_) (LV_e hl (by rw [ωo 35 (by decide), cυ.1 35 (by decide)])) (SG_e hg (by rw [ωo 37 (by decide), cυ.1 37 (by decide)]) (by rw [ωo 38 (by decide), cυ.1 38 (by decide)])) ⟨j0, (a3 j0).mp hj0⟩ (fun ψ cψ lψ gψ => ?_)
        · obtain ⟨-, l, hr, hcan⟩ := (hob s).mp hs
          exact ⟨can_n hcan, Rc_sd hr (can_n hcan)⟩
        · simp only [e63_87, e63_90, true_or, or_true, true_and, and_true, Option.toList, List.cons_append, List.nil_append, if_true, if_false, reduceIte, nI_1]
          have he : ∀ n j, (PR t f th sd la k n j ∨ (o.testBit j = true ∧ n = k ||| 2 ^ j)) ↔ PR t f th sd la (k + 1) n j := fun n j => by
            rw [PRs, hob j, and_assoc]
          refine ih (k + 1) ψ (by omega) (by omega) (ch_tr ωc (ch_sub cψ (by decide))) (LV_c lψ he) (SG_c gψ he) (fun n l hn hr => ?_)
          rw [cψ.1 36 (by decide), ω36]
          by_cases e : n = k
          · subst e
            exact ⟨o, by omega, upd_eq _ _ _, hob⟩
          · obtain ⟨o', q1, q2, q3⟩ := ho n l (by omega) hr
            exact ⟨o', q1, by rw [upd_ne _ _ e, cυ.1 36 (by decide)]; exact q2, q3⟩
  have c64' := fun Q τ => c64 (d := d + 3) (l := la) (σ := τ) (Q := Q) ht hla
  have hlb := lb_lt ht hla
  have es := in_eq (j := sd) (n := 256) (by omega) (by decide)
  have cs := nI_clamp (n := sd) (by omega)
  simp only [e63_0, e63_1, e63_4, e63_5, e63_8, e63_9, e63_12, e63_13, e63_16, e63_17, e63_20, e63_23, e63_24, e63_25, e63_28, e63_29, e63_32, e63_33, e63_34, e63_35, e63_38, e63_39, e63_42, e63_43, e63_44, e63_45, e63_48, true_or, or_true, true_and, and_true, Option.toList, List.cons_append, List.nil_append, if_true, if_false, reduceIte, wI_get, upd_get, Nat.reduceEqDiff, reduceIte, if_true, if_false, sk31, sk16, sr31_1, sr31_3, sr31_4, sk35, sn35, sk37, sn37, sk38, sn38, c17 (c := 35) (n := 256) sk35 sn35 (by decide), h162, h163, c64', es, cs]
  refine key (2 ^ tS t - sd) sd _ (by omega) (Nat.le_refl _) ?_ (fun n hn => ?_) (fun n hn hex => ?_) (fun n l hn hr => ?_)
  · repeat (first | exact ch_rf _ _ | refine ch_w ?_ (by decide))
  · have PR0 : ∀ j, PR t f th sd la sd n j ↔ (n = sd ∧ j = lb la) := fun j => ⟨fun z => z.elim id (fun ⟨m, l, z1, z2, _⟩ => by have := Rc_ge z2; omega), Or.inl⟩
    by_cases e : n = sd
    · subst e
      refine ⟨2 ^ lb la, Nat.pow_lt_pow_right (by decide) (show lb la < 9 from hlb), ?_, fun j => ?_⟩
      · simp only [wI_get, upd_get, Nat.reduceEqDiff, reduceIte, if_true, if_false]
      · rw [PR0, Nat.testBit_two_pow, decide_eq_true_eq]
        exact ⟨fun z => ⟨rfl, z.symm⟩, fun z => z.2.symm⟩
    · refine ⟨0, by decide, ?_, fun j => ?_⟩
      · simp only [wI_get, upd_get, Nat.reduceEqDiff, reduceIte, if_true, if_false, if_neg e, if_pos hn]; rfl
      · rw [PR0, Nat.zero_testBit]
        exact ⟨fun z => absurd z (by decide), fun z => absurd z.1 e⟩
  · obtain ⟨j, hj⟩ := hex
    have e : n = sd := hj.elim (fun z => z.1) (fun ⟨m, l, z1, z2, _⟩ => by have := Rc_ge z2; omega)
    subst e
    simp only [wI_get, upd_get, Nat.reduceEqDiff, reduceIte, if_true, if_false, spt_self, gnd_self]
    exact ⟨rfl, rfl⟩
  · exact absurd (Rc_ge hr) (by omega)
