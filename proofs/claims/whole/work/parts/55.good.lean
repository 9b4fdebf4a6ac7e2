/-! GOOD -/
/-- from there the top can be come by, behind k sayings -/
def Gdf (t : gT) (f : Nat → Nat) (th sd T top : Nat) : Nat → Nat → Int32 → Prop
  | 0, n, _ => gnd t sd n = top ∧ spt t sd n ≤ T
  | k + 1, n, l => ∃ s, s < tS t ∧ can t f th sd n l s = true ∧ Gdf t f th sd T top k (n ||| 2 ^ s) (nI s)
def Gd (t : gT) (f : Nat → Nat) (th sd T top : Nat) (n : Nat) (l : Int32) : Prop := ∃ k, Gdf t f th sd T top k n l
section Good
variable {t : gT} {f : Nat → Nat} {th sd T top : Nat} {la : Int32}
theorem Gd_0 {n : Nat} {l : Int32} (h1 : gnd t sd n = top) (h2 : spt t sd n ≤ T) : Gd t f th sd T top n l := ⟨0, h1, h2⟩
theorem Gd_s {n s : Nat} {l : Int32} (h1 : s < tS t) (h2 : can t f th sd n l s = true) (h3 : Gd t f th sd T top (n ||| 2 ^ s) (nI s)) : Gd t f th sd T top n l := by
  obtain ⟨k, h3⟩ := h3
  exact ⟨k + 1, s, h1, h2, h3⟩
theorem Gd_inv {n : Nat} {l : Int32} (h : Gd t f th sd T top n l) : (gnd t sd n = top ∧ spt t sd n ≤ T) ∨ ∃ s, s < tS t ∧ can t f th sd n l s = true ∧ Gd t f th sd T top (n ||| 2 ^ s) (nI s) := by
  obtain ⟨k, h⟩ := h
  cases k with
  | zero => exact Or.inl h
  | succ k =>
    obtain ⟨s, h1, h2, h3⟩ := h
    exact Or.inr ⟨s, h1, h2, k, h3⟩
theorem Gd_spt {n : Nat} {l : Int32} (hr : Rc t f th sd la n l) (h : Gd t f th sd T top n l) : spt t sd n ≤ T := by
  obtain ⟨k, h⟩ := h
  induction k generalizing n l with
  | zero => exact h.2
  | succ k ih =>
    obtain ⟨s, h1, h2, h3⟩ := h
    have := ih (Rc_s hr h1 h2) h3
    rw [Rc_spt hr h1 h2] at this
    omega
/-- sets joined -/
def orf (C : Nat → Bool) (X : Nat → Nat) (m : Nat) : Nat := itn (fun s a => if C s then a ||| X s else a) m 0
theorem orf_bit (C : Nat → Bool) (X : Nat → Nat) (m j : Nat) : (orf C X m).testBit j = true ↔ ∃ s, s < m ∧ C s = true ∧ (X s).testBit j = true := by
  induction m with
  | zero => simp [orf, itn]
  | succ m ih =>
    have hs : orf C X (m + 1) = if C m then orf C X m ||| X m else orf C X m := rfl
    rw [hs]
    cases e : C m
    · rw [if_neg (by decide), ih]
      exact ⟨fun ⟨s, a, b⟩ => ⟨s, by omega, b⟩, fun ⟨s, a, b, c⟩ => ⟨s, by
        by_cases e2 : s = m
        · rw [e2, e] at b; exact absurd b (by decide)
        · omega, b, c⟩⟩
    · rw [if_pos rfl, Nat.testBit_or, Bool.or_eq_true, ih]
      constructor
      · rintro (⟨s, a, b⟩ | h)
        · exact ⟨s, by omega, b⟩
        · exact ⟨m, by omega, e, h⟩
      · rintro ⟨s, a, b, c⟩
        by_cases e2 : s = m
        · subst e2; exact Or.inr c
        · exact Or.inl ⟨s, by omega, b, c⟩
theorem orf_lt (C : Nat → Bool) (X : Nat → Nat) (m : Nat) {N : Nat} (h : ∀ s, s < m → X s < 2 ^ N) : orf C X m < 2 ^ N := by
  induction m with
  | zero => exact Nat.pow_pos (by decide)
  | succ m ih =>
    have hs : orf C X (m + 1) = if C m then orf C X m ||| X m else orf C X m := rfl
    have ih' := ih (fun s hs => h s (by omega))
    rw [hs]
    split
    · exact Nat.or_lt_two_pow ih' (h m (by omega))
    · exact ih'
set_option maxHeartbeats 8000000 in
/-- goodByNext -/
theorem c73 {d k o v : Nat} {gg : Nat → Nat} {σ : ab_St} {Q : Option Value → ab_St → Prop} (ht : tok t) (htd : tdV σ 11 t) (hk : k < 2 ^ tS t) (h36 : σ.1 36 k = nI o) (ho : o < 256) (h35 : σ.1 35 k = nI v) (hv : v < 512) (hg : ∀ s, s < tS t → o.testBit s = true → σ.1 39 (k ||| 2 ^ s) = nI (gg s) ∧ gg s < 512) :
    Ev (d + 1) 73 0 [some (.ref 31), some (.ref 11), some (.int (nI k)), none, none, none] [] σ Q = Q (some (.int (nI (orf (fun s => o.testBit s && (gg s).testBit s) (fun s => if ta t s = -9 then v else 2 ^ (ta t s).toNatClampNeg) (tS t))))) σ := by
  have h8 := ht.2.1
  have h256 := two_le8 _ h8
  have hX : ∀ s, s < tS t → (if ta t s = -9 then v else 2 ^ (ta t s).toNatClampNeg) < 2 ^ 9 := by
    intro s hs
    split
    · exact hv
    next e =>
      rcases (ht.2.2 s hs).2.2.2.2 with e2 | ⟨a, ha, e2⟩
      · exact absurd e2 e
      · rw [e2, nI_clamp (by omega)]
        exact Nat.pow_lt_pow_right (by decide) (by omega)
  have ek := in_eq (j := k) (n := 256) (by omega) (by decide)
  have ck := nI_clamp (n := k) (by omega)
  have key : ∀ (m i : Nat) (l5 : Option Value), i + m = tS t → Ev (d + 1) 73 5 [some (.ref 31), some (.ref 11), some (.int (nI k)), some (.int (nI (orf (fun s => o.testBit s && (gg s).testBit s) (fun s => if ta t s = -9 then v else 2 ^ (ta t s).toNatClampNeg) i))), some (.int (nI i)), l5] [] σ Q = Q (some (.int (nI (orf (fun s => o.testBit s && (gg s).testBit s) (fun s => if ta t s = -9 then v else 2 ^ (ta t s).toNatClampNeg) (tS t))))) σ := by
    intro m
    induction m with
    | zero =>
      intro i l5 hi
      have hi2 : i = tS t := by omega
      subst hi2
      have hge : (nI (tS t) ≤ nI (tS t)) = True := eq_true (nI_le (Nat.le_refl _) (by omega))
      rw [e73_5]
      simp only [e73_7, e73_8, e73_11, e73_14, e73_15, e73_18, e73_19, e73_20, e73_22, e73_25, e73_28, e73_29, e73_32, e73_33, e73_34, e73_36, e73_37, e73_38, e73_39, e73_41, e73_44, e73_47, e73_48, e73_51, e73_53, e73_54, e73_56, e73_57, e73_59, e73_61, e73_64, e73_65, e73_68, e73_69, e73_70, e73_73, e73_74, e73_76, e73_77, e73_78, e73_79, e73_82, e73_85, e73_86, true_or, or_true, true_and, and_true, Option.toList, List.cons_append, List.nil_append, if_true, if_false, reduceIte, sk11, htd.2.1, hge]
    | succ m ih =>
      intro i l5 hi
      have his : i < tS t := by omega
      have hge : (nI (tS t) ≤ nI i) = False := eq_false (nI_ge his (by omega))
      have ih' := ih (i + 1)
      have hs : orf (fun s => o.testBit s && (gg s).testBit s) (fun s => if ta t s = -9 then v else 2 ^ (ta t s).toNatClampNeg) (i + 1) = if (o.testBit i && (gg i).testBit i) = true then orf (fun s => o.testBit s && (gg s).testBit s) (fun s => if ta t s = -9 then v else 2 ^ (ta t s).toNatClampNeg) i ||| (if ta t i = -9 then v else 2 ^ (ta t i).toNatClampNeg) else orf (fun s => o.testBit s && (gg s).testBit s) (fun s => if ta t s = -9 then v else 2 ^ (ta t s).toNatClampNeg) i := rfl
      have hlt := orf_lt (fun s => o.testBit s && (gg s).testBit s) (fun s => if ta t s = -9 then v else 2 ^ (ta t s).toNatClampNeg) i (N := 9) (fun s hs => hX s (by omega))
      rw [hs] at ih'
      generalize orf (fun s => o.testBit s && (gg s).testBit s) (fun s => if ta t s = -9 then v else 2 ^ (ta t s).toNatClampNeg) i = w at ih' hlt ⊢
      rw [e73_5]
      cases b1 : o.testBit i
      · simp only [b1, Bool.false_and, Bool.false_eq_true, if_false] at ih'
        simp only [e73_7, e73_8, e73_11, e73_14, e73_15, e73_18, e73_19, e73_20, e73_22, e73_25, e73_28, e73_29, e73_32, e73_33, e73_34, e73_36, e73_37, e73_38, e73_39, e73_41, e73_44, e73_47, e73_48, e73_51, e73_53, e73_54, e73_56, e73_57, e73_59, e73_61, e73_64, e73_65, e73_68, e73_69, e73_70, e73_73, e73_74, e73_76, e73_77, e73_78, e73_79, e73_82, true_or, or_true, true_and, and_true, Option.toList, List.cons_append, List.nil_append, if_true, if_false, reduceIte, sk11, sk31, sr31_2, sk36, sn36, htd.2.1, hge, ek, ck, h36, c32 (s := o) (k := i) (by omega) (by omega), b1, bI_0, nI_1]
        exact ih' _ (by omega)
      · have hgi := hg i his b1
        have hx : k ||| 2 ^ i < 256 := Nat.lt_of_lt_of_le (or_lt hk his) h256
        have ex := in_eq (j := k ||| 2 ^ i) (n := 256) hx (by decide)
        have cx := nI_clamp (n := k ||| 2 ^ i) (by omega)
        cases b2 : (gg i).testBit i
        · simp only [b1, b2, Bool.and_false, Bool.false_eq_true, if_false] at ih'
          simp only [e73_7, e73_8, e73_11, e73_14, e73_15, e73_18, e73_19, e73_20, e73_22, e73_25, e73_28, e73_29, e73_32, e73_33, e73_34, e73_36, e73_37, e73_38, e73_39, e73_41, e73_44, e73_47, e73_48, e73_51, e73_53, e73_54, e73_56, e73_57, e73_59, e73_61, e73_64, e73_65, e73_68, e73_69, e73_70, e73_73, e73_74, e73_76, e73_77, e73_78, e73_79, e73_82, true_or, or_true, true_and, and_true, Option.toList, List.cons_append, List.nil_append, if_true, if_false, reduceIte, sk11, sk31, sr31_2, sr31_5, sk36, sn36, sk39, sn39, htd.2.1, hge, ek, ck, h36, c32 (s := o) (k := i) (by omega) (by omega), b1, bI_0, Bool.true_eq_false, nI_set (a := k) (k := i) (by omega) (by omega), ex, cx, hgi.1, c32 (s := gg i) (k := i) (by omega) (by omega), b2, nI_1]
          exact ih' _ (by omega)
        · have d3 := htd.2.2 i his
          rw [sr11_3] at d3
          simp only [b1, b2, Bool.and_self, if_true] at ih'
          rcases (ht.2.2 i his).2.2.2.2 with e9 | ⟨a, ha, e9⟩
          · simp only [if_pos e9] at ih'
            simp only [e73_7, e73_8, e73_11, e73_14, e73_15, e73_18, e73_19, e73_20, e73_22, e73_25, e73_28, e73_29, e73_32, e73_33, e73_34, e73_36, e73_37, e73_38, e73_39, e73_41, e73_44, e73_47, e73_48, e73_51, e73_53, e73_54, e73_56, e73_57, e73_59, e73_61, e73_64, e73_65, e73_68, e73_69, e73_70, e73_73, e73_74, e73_76, e73_77, e73_78, e73_79, e73_82, true_or, or_true, true_and, and_true, Option.toList, List.cons_append, List.nil_append, if_true, if_false, reduceIte, sk11, sr11_3, sk15, sn15, sk31, sr31_1, sr31_2, sr31_5, sk35, sn35, sk36, sn36, sk39, sn39, htd.2.1, hge, ek, ck, h36, h35, c32 (s := o) (k := i) (by omega) (by omega), b1, bI_0, Bool.true_eq_false, nI_set (a := k) (k := i) (by omega) (by omega), ex, cx, hgi.1, c32 (s := gg i) (k := i) (by omega) (by omega), b2, in_eq (j := i) (n := 8) (by omega) (by decide), nI_clamp (n := i) (by omega), d3.2.2.2, e9, nI_or (a := w) (b := v) (by omega) (by omega), nI_1]
            exact ih' _ (by omega)
          · simp only [e9, m9_ne (n := a) (by omega), if_false, nI_clamp (n := a) (by omega)] at ih'
            simp only [e73_7, e73_8, e73_11, e73_14, e73_15, e73_18, e73_19, e73_20, e73_22, e73_25, e73_28, e73_29, e73_32, e73_33, e73_34, e73_36, e73_37, e73_38, e73_39, e73_41, e73_44, e73_47, e73_48, e73_51, e73_53, e73_54, e73_56, e73_57, e73_59, e73_61, e73_64, e73_65, e73_68, e73_69, e73_70, e73_73, e73_74, e73_76, e73_77, e73_78, e73_79, e73_82, true_or, or_true, true_and, and_true, Option.toList, List.cons_append, List.nil_append, if_true, if_false, reduceIte, sk11, sr11_3, sk15, sn15, sk31, sr31_1, sr31_2, sr31_5, sk35, sn35, sk36, sn36, sk39, sn39, htd.2.1, hge, ek, ck, h36, h35, c32 (s := o) (k := i) (by omega) (by omega), b1, bI_0, Bool.true_eq_false, nI_set (a := k) (k := i) (by omega) (by omega), ex, cx, hgi.1, c32 (s := gg i) (k := i) (by omega) (by omega), b2, in_eq (j := i) (n := 8) (by omega) (by decide), nI_clamp (n := i) (by omega), d3.2.2.2, e9, m9_ne (n := a) (by omega), nI_set (a := w) (k := a) (by omega) (by omega), nI_1]
            exact ih' _ (by omega)
  simp only [e73_0, e73_1, e73_2, e73_3]
  exact key (tS t) 0 none (by omega)
/-- what markGood finds -/
def GDD (τ : ab_St) (t : gT) (f : Nat → Nat) (th sd : Nat) (la : Int32) (T top k : Nat) : Prop := ∀ n, k ≤ n → n < 2 ^ tS t → ∃ w, w < 512 ∧ τ.1 39 n = nI w ∧ ∀ j, w.testBit j = true ↔ ∃ l, Rc t f th sd la n l ∧ lb l = j ∧ Gd t f th sd T top n l
theorem dn_s (k : Nat) : nI (k + 1) - 1 = nI k := nI_pred k
theorem dn_m (k : Nat) : nI k + (-1) = nI k - 1 := by
  rw [Int32.sub_eq_add_neg]
theorem dn_lt {k s : Nat} (hk : k < 2 ^ 30) (hs : s < 2 ^ 30) : (nI k - 1 < nI s) = (k ≤ s) := by
  apply propext
  rw [Int32.lt_iff_toInt_lt, show (nI k - 1).toInt = (k : Int) - 1 from pk_sub_toInt (a := k) (b := 1) (by omega) (by decide), nI_toInt (by omega)]
  omega
theorem SPD_e {σ τ : ab_St} (h : SPD σ t f th sd la) (e : ∀ c, c ∈ [35, 36, 37, 38] → τ.1 c = σ.1 c) : SPD τ t f th sd la := by
  unfold SPD
  rw [e 35 (by decide), e 36 (by decide), e 37 (by decide), e 38 (by decide)]
  exact h
set_option maxHeartbeats 8000000 in
/-- markGood -/
theorem c72 {d : Nat} {σ : ab_St} {Q : Option Value → ab_St → Prop} (ht : tok t) (htd : tdV σ 11 t) (h162 : σ.1 16 2 = nI sd) (hsd : sd < 2 ^ tS t) (hla : laok t la) (hT : T ≤ 1000) (htop : top ≤ 72) (hS : SPD σ t f th sd la) (hQ : ∀ τ, ch [39] σ τ → GDD τ t f th sd la T top sd → Q none τ) : Ev (d + 2) 72 0 [some (.ref 31), some (.ref 11), some (.ref 16), some (.int (nI T)), some (.int (nI top)), none] [] σ Q := by
  have h8 := ht.2.1
  have h256 := two_le8 _ h8
  have key : ∀ (m : Nat) (τ : ab_St), sd + m ≤ 2 ^ tS t → ch [39] σ τ → GDD τ t f th sd la T top (sd + m) → Ev (d + 1 + 1) 72 10 [some (.ref 31), some (.ref 11), some (.ref 16), some (.int (nI T)), some (.int (nI top)), some (.int (nI (sd + m) - 1))] [] τ Q := by
    intro m
    induction m with
    | zero =>
      intro τ hk hc hg
      have v2 : τ.1 16 2 = nI sd := by rw [hc.1 16 (by decide)]; exact h162
      have hlt : (nI (sd + 0) - 1 < nI sd) = True := by rw [dn_lt (by omega) (by omega)]; exact eq_true (by omega)
      rw [e72_10]
      simp only [e72_12, e72_13, e72_16, e72_19, e72_20, e72_23, e72_25, e72_26, e72_29, e72_30, e72_33, e72_35, e72_36, e72_37, e72_40, e72_41, e72_44, e72_46, e72_47, e72_48, e72_51, e72_52, e72_55, e72_57, e72_58, e72_61, e72_63, e72_64, e72_66, e72_69, e72_70, e72_73, e72_75, e72_76, e72_79, e72_80, e72_81, e72_83, e72_86, e72_87, e72_90, e72_93, true_or, or_true, true_and, and_true, Option.toList, List.cons_append, List.nil_append, if_true, if_false, reduceIte, sk16, v2, hlt]
      exact hQ τ hc hg
    | succ m ih =>
      intro τ hk hc hg
      have v2 : τ.1 16 2 = nI sd := by rw [hc.1 16 (by decide)]; exact h162
      have hlt : (nI (sd + m) < nI sd) = False := eq_false (fun h => by
        have := Int32.lt_iff_toInt_lt.mp h
        rw [nI_toInt (by omega), nI_toInt (by omega)] at this
        omega)
      have e0 : nI (sd + (m + 1)) - 1 = nI (sd + m) := dn_s (sd + m)
      have e1 : nI (sd + m) + (-1) = nI (sd + m) - 1 := dn_m (sd + m)
      generalize hkk : sd + m = k at e0 e1 hlt ih
      have hk2 : k < 2 ^ tS t := by omega
      have hS' : SPD τ t f th sd la := SPD_e hS (fun c hcc => hc.1 c (by revert c; decide))
      obtain ⟨v, a1, a2, a3⟩ := hS'.1 k hk2
      have ek := in_eq (j := k) (n := 256) (by omega) (by decide)
      have ck := nI_clamp (n := k) (by omega)
      have fin : ∀ w, w < 512 → (∀ j, w.testBit j = true ↔ ∃ l, Rc t f th sd la k l ∧ lb l = j ∧ Gd t f th sd T top k l) → Ev (d + 1 + 1) 72 10 [some (.ref 31), some (.ref 11), some (.ref 16), some (.int (nI T)), some (.int (nI top)), some (.int (nI k - 1))] [] (ab_wI τ 39 (upd (τ.1 39) k (nI w))) Q := by
        intro w hw hwb
        refine ih _ (by omega) (ch_w hc (by decide)) (fun n hn hn2 => ?_)
        by_cases e : n = k
        · subst e
          exact ⟨w, hw, by rw [wI_eq, upd_eq], hwb⟩
        · obtain ⟨w', b1, b2, b3⟩ := hg n (by omega) hn2
          exact ⟨w', b1, by rw [wI_eq, upd_ne _ _ e]; exact b2, b3⟩
      rw [e72_10]
      by_cases v0 : v = 0
      · subst v0
        simp only [e72_12, e72_13, e72_16, e72_19, e72_20, e72_23, e72_25, e72_26, e72_29, e72_30, e72_33, e72_35, e72_36, e72_37, e72_40, e72_41, e72_44, e72_46, e72_47, e72_48, e72_51, e72_52, e72_55, e72_57, e72_58, e72_61, e72_63, e72_64, e72_66, e72_69, e72_70, e72_73, e72_75, e72_76, e72_79, e72_80, e72_81, e72_83, e72_86, e72_87, e72_90, true_or, or_true, true_and, and_true, Option.toList, List.cons_append, List.nil_append, if_true, if_false, reduceIte, sk16, v2, e0, hlt, sk31, sr31_1, sr31_5, sk35, sn35, sk39, sn39, ek, ck, a2, show (nI 0 = (0 : Int32)) = True from eq_true rfl, e1]
        refine fin 0 (by decide) (fun j => ?_)
        rw [Nat.zero_testBit]
        refine ⟨fun z => absurd z (by decide), fun ⟨l, hr, _⟩ => ?_⟩
        have := (a3 (lb l)).mpr ⟨l, hr, rfl⟩
        rw [Nat.zero_testBit] at this
        exact this
      · have hv0 : (nI v = (0 : Int32)) = False := eq_false (fun e => v0 (nI_inj (b := 0) (by omega) (by decide) e))
        obtain ⟨j0, hj0⟩ := bit_ne0 v0
        obtain ⟨l0, hr0, -⟩ := (a3 j0).mp hj0
        obtain ⟨q1, q2, o, q3, q4, q5⟩ := hS'.2 k l0 hr0
        have hsp := spt_le ht sd k
        have hgp := gnd_le ht sd k
        by_cases hT2 : spt t sd k ≤ T
        · have hle : (nI (spt t sd k) ≤ nI T) = True := eq_true (nI_le hT2 (by omega))
          by_cases hg2 : gnd t sd k = top
          · have eg : (nI (gnd t sd k) = nI top) = True := eq_true (by rw [hg2])
            simp only [e72_12, e72_13, e72_16, e72_19, e72_20, e72_23, e72_25, e72_26, e72_29, e72_30, e72_33, e72_35, e72_36, e72_37, e72_40, e72_41, e72_44, e72_46, e72_47, e72_48, e72_51, e72_52, e72_55, e72_57, e72_58, e72_61, e72_63, e72_64, e72_66, e72_69, e72_70, e72_73, e72_75, e72_76, e72_79, e72_80, e72_81, e72_83, e72_86, e72_87, e72_90, true_or, or_true, true_and, and_true, Option.toList, List.cons_append, List.nil_append, if_true, if_false, reduceIte, sk16, v2, e0, hlt, sk31, sr31_1, sr31_3, sr31_4, sr31_5, sk35, sn35, sk37, sn37, sk38, sn38, sk39, sn39, ek, ck, a2, hv0, q1, q2, hle, eg, e1]
            refine fin v a1 (fun j => ?_)
            rw [a3 j]
            exact ⟨fun ⟨l, z1, z2⟩ => ⟨l, z1, z2, Gd_0 hg2 hT2⟩, fun ⟨l, z1, z2, _⟩ => ⟨l, z1, z2⟩⟩
          · have eg : (nI (gnd t sd k) = nI top) = False := eq_false (fun e => hg2 (nI_inj (by omega) (by omega) e))
            have hgg : ∀ s, s < tS t → o.testBit s = true → τ.1 39 (k ||| 2 ^ s) = nI ((τ.1 39 (k ||| 2 ^ s)).toNatClampNeg) ∧ (τ.1 39 (k ||| 2 ^ s)).toNatClampNeg < 512 ∧ ∀ j, ((τ.1 39 (k ||| 2 ^ s)).toNatClampNeg).testBit j = true ↔ ∃ l, Rc t f th sd la (k ||| 2 ^ s) l ∧ lb l = j ∧ Gd t f th sd T top (k ||| 2 ^ s) l := by
              intro s hs hos
              obtain ⟨-, l', hr', hc'⟩ := (q5 s).mp hos
              have hgt := or_gt (can_n hc')
              obtain ⟨w, b1, b2, b3⟩ := hg (k ||| 2 ^ s) (by omega) (or_lt hk2 hs)
              rw [b2, nI_clamp (by omega)]
              exact ⟨rfl, b1, b3⟩
            have c73' := fun Q => c73 (d := d) (k := k) (o := o) (v := v) (gg := fun s => (τ.1 39 (k ||| 2 ^ s)).toNatClampNeg) (σ := τ) (Q := Q) ht (tdV_ag htd (fun c hcc => hc.1 c (by revert c; decide))) hk2 q4 q3 a2 a1 (fun s hs hos => ⟨(hgg s hs hos).1, (hgg s hs hos).2.1⟩)
            simp only [e72_12, e72_13, e72_16, e72_19, e72_20, e72_23, e72_25, e72_26, e72_29, e72_30, e72_33, e72_35, e72_36, e72_37, e72_40, e72_41, e72_44, e72_46, e72_47, e72_48, e72_51, e72_52, e72_55, e72_57, e72_58, e72_61, e72_63, e72_64, e72_66, e72_69, e72_70, e72_73, e72_75, e72_76, e72_79, e72_80, e72_81, e72_83, e72_86, e72_87, e72_90, true_or, or_true, true_and, and_true, Option.toList, List.cons_append, List.nil_append, if_true, if_false, reduceIte, sk16, v2, e0, hlt, sk31, sr31_1, sr31_3, sr31_4, sr31_5, sk35, sn35, sk37, sn37, sk38, sn38, sk39, sn39, ek, ck, a2, hv0, q1, q2, hle, eg, c73', e1]
            refine fin _ (orf_lt _ _ _ (N := 9) (fun s hs => ?_)) (fun j => ?_)
            · split
              · exact a1
              next e =>
                rcases (ht.2.2 s hs).2.2.2.2 with e2 | ⟨a, ha, e2⟩
                · exact absurd e2 e
                · rw [e2, nI_clamp (by omega)]
                  exact Nat.pow_lt_pow_right (by decide) (by omega)
            · rw [orf_bit]
              constructor
              · rintro ⟨s, hs, hcs, hj⟩
                rw [Bool.and_eq_true] at hcs
                obtain ⟨l2, hr2, hl2, hgd⟩ := ((hgg s hs hcs.1).2.2 s).mp hcs.2
                have el2 : l2 = nI s := lb_inj ht (Rc_la hla hr2) (Or.inr ⟨s, hs, rfl⟩) (by rw [hl2, lb_n (by omega)])
                subst el2
                obtain ⟨-, l', hr', hc'⟩ := (q5 s).mp hcs.1
                by_cases e9 : ta t s = -9
                · rw [if_pos e9] at hj
                  obtain ⟨l, hr, hlj⟩ := (a3 j).mp hj
                  refine ⟨l, hr, hlj, Gd_s hs ?_ hgd⟩
                  unfold can alw at hc' ⊢
                  simp only [if_pos e9] at hc' ⊢
                  exact hc'
                · rw [if_neg e9, Nat.testBit_two_pow, decide_eq_true_eq] at hj
                  refine ⟨l', hr', ?_, Gd_s hs hc' hgd⟩
                  unfold can alw at hc'
                  simp only [if_neg e9, Bool.and_eq_true, decide_eq_true_eq] at hc'
                  rw [← hc'.2.2, ← hj]
                  unfold lb
                  rw [if_neg e9]
              · rintro ⟨l, hr, hlj, hgd⟩
                rcases Gd_inv hgd with z | ⟨s, hs, hcn, hgd2⟩
                · exact absurd z.1 hg2
                have hos := (q5 s).mpr ⟨hs, l, hr, hcn⟩
                refine ⟨s, hs, ?_, ?_⟩
                · rw [Bool.and_eq_true]
                  exact ⟨hos, ((hgg s hs hos).2.2 s).mpr ⟨nI s, Rc_s hr hs hcn, lb_n (by omega), hgd2⟩⟩
                · by_cases e9 : ta t s = -9
                  · rw [if_pos e9]
                    exact (a3 j).mpr ⟨l, hr, hlj⟩
                  · rw [if_neg e9, Nat.testBit_two_pow, decide_eq_true_eq, ← hlj]
                    unfold can alw at hcn
                    simp only [if_neg e9, Bool.and_eq_true, decide_eq_true_eq] at hcn
                    rw [← hcn.2.2]
                    unfold lb
                    rw [if_neg e9]
        · have hle : (nI (spt t sd k) ≤ nI T) = False := eq_false (nI_ge (by omega) (by omega))
          simp only [e72_12, e72_13, e72_16, e72_19, e72_20, e72_23, e72_25, e72_26, e72_29, e72_30, e72_33, e72_35, e72_36, e72_37, e72_40, e72_41, e72_44, e72_46, e72_47, e72_48, e72_51, e72_52, e72_55, e72_57, e72_58, e72_61, e72_63, e72_64, e72_66, e72_69, e72_70, e72_73, e72_75, e72_76, e72_79, e72_80, e72_81, e72_83, e72_86, e72_87, e72_90, true_or, or_true, true_and, and_true, Option.toList, List.cons_append, List.nil_append, if_true, if_false, reduceIte, sk16, v2, e0, hlt, sk31, sr31_1, sr31_3, sr31_4, sr31_5, sk35, sn35, sk37, sn37, sk38, sn38, sk39, sn39, ek, ck, a2, hv0, q1, q2, hle, e1]
          refine fin 0 (by decide) (fun j => ?_)
          rw [Nat.zero_testBit]
          exact ⟨fun z => absurd z (by decide), fun ⟨l, hr, _, hgd⟩ => absurd (Gd_spt hr hgd) hT2⟩
  simp only [e72_0, e72_1, e72_2, e72_5, e72_6, e72_7, e72_8, true_or, or_true, true_and, and_true, Option.toList, List.cons_append, List.nil_append, if_true, if_false, reduceIte, sk11, htd.2.1, nI_shl (k := tS t) (by omega)]
  have := key (2 ^ tS t - sd) σ (by omega) (ch_rf _ σ) (fun n hn hn2 => by omega)
  rw [show sd + (2 ^ tS t - sd) = 2 ^ tS t by omega] at this
  exact this
end Good
