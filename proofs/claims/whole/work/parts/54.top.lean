/-! TOP, FEWEST -/
theorem mxe {a b : Nat} (ha : a < 2 ^ 31) (hb : b < 2 ^ 31) : (if nI a < nI b then nI b else nI a) = nI (if a < b then b else a) := by
  simp only [nI_ltI ha hb]
  split <;> rfl
section Top
variable {t : gT} {f : Nat → Nat} {th sd : Nat} {la : Int32}
def TP (t : gT) (f : Nat → Nat) (th sd : Nat) (la : Int32) (T r : Nat) : Prop := (∀ n l, Rc t f th sd la n l → spt t sd n ≤ T → gnd t sd n ≤ r) ∧ ∃ n l, Rc t f th sd la n l ∧ spt t sd n ≤ T ∧ gnd t sd n = r
theorem TP_uq {T r r' : Nat} (h : TP t f th sd la T r) (h' : TP t f th sd la T r') : r = r' := by
  obtain ⟨a1, n, l, a2, a3, a4⟩ := h
  obtain ⟨b1, n', l', b2, b3, b4⟩ := h'
  have := a1 n' l' b2 b3
  have := b1 n l a2 a3
  omega
set_option maxHeartbeats 8000000 in
/-- topWorth -/
theorem c69 {d T : Nat} {σ : ab_St} {Q : Option Value → ab_St → Prop} (ht : tok t) (htd : tdV σ 11 t) (h162 : σ.1 16 2 = nI sd) (hsd : sd < 2 ^ tS t) (hT : T ≤ 1000) (hS : SPD σ t f th sd la) (hQ : ∀ r, r ≤ 72 → TP t f th sd la T r → Q (some (.int (nI r))) σ) : Ev (d + 1) 69 0 [some (.ref 31), some (.ref 11), some (.ref 16), some (.int (nI T)), none, none] [] σ Q := by
  have h8 := ht.2.1
  have h256 := two_le8 _ h8
  obtain ⟨S1, S2⟩ := hS
  have key : ∀ (m k r : Nat), k + m = 2 ^ tS t → sd ≤ k → r ≤ 72 → (∀ n l, n < k → Rc t f th sd la n l → spt t sd n ≤ T → gnd t sd n ≤ r) → (∃ n l, Rc t f th sd la n l ∧ spt t sd n ≤ T ∧ gnd t sd n = r) → Ev (d + 1) 69 9 [some (.ref 31), some (.ref 11), some (.ref 16), some (.int (nI T)), some (.int (nI r)), some (.int (nI k))] [] σ Q := by
    intro m
    induction m with
    | zero =>
      intro k r hk hsk hr h1 h2
      have hk2 : k = 2 ^ tS t := by omega
      subst hk2
      have hge : (nI (2 ^ tS t) ≤ nI (2 ^ tS t)) = True := eq_true (nI_le (Nat.le_refl _) (by omega))
      rw [e69_9]
      simp only [e69_11, e69_12, e69_13, e69_16, e69_17, e69_20, e69_21, e69_24, e69_26, e69_27, e69_30, e69_31, e69_34, e69_36, e69_37, e69_38, e69_41, e69_43, e69_44, e69_47, e69_49, e69_50, e69_53, e69_55, e69_58, e69_61, e69_63, true_or, or_true, true_and, and_true, Option.toList, List.cons_append, List.nil_append, if_true, if_false, reduceIte, sk11, htd.2.1, nI_shl (k := tS t) (by omega), hge]
      exact hQ r hr ⟨fun n l hr => h1 n l (Rc_lt hsd hr) hr, h2⟩
    | succ m ih =>
      intro k r hk hsk hr h1 h2
      have hk2 : k < 2 ^ tS t := by omega
      have hge : (nI (2 ^ tS t) ≤ nI k) = False := eq_false (nI_ge hk2 (by omega))
      have ek := in_eq (j := k) (n := 256) (by omega) (by decide)
      have ck := nI_clamp (n := k) (by omega)
      obtain ⟨v, a1, a2, a3⟩ := S1 k hk2
      rw [e69_9]
      by_cases v0 : v = 0
      · subst v0
        simp only [e69_11, e69_12, e69_13, e69_16, e69_17, e69_20, e69_21, e69_24, e69_26, e69_27, e69_30, e69_31, e69_34, e69_36, e69_37, e69_38, e69_41, e69_43, e69_44, e69_47, e69_49, e69_50, e69_53, e69_55, e69_58, true_or, or_true, true_and, and_true, Option.toList, List.cons_append, List.nil_append, if_true, if_false, reduceIte, sk11, sk31, sr31_1, sk35, sn35, htd.2.1, nI_shl (k := tS t) (by omega), hge, ek, ck, a2, show (nI 0 = (0 : Int32)) = True from eq_true rfl, nI_1]
        refine ih (k + 1) r (by omega) (by omega) hr (fun n l hn hrc => ?_) h2
        by_cases e : n = k
        · subst e
          have := (a3 (lb l)).mpr ⟨l, hrc, rfl⟩
          rw [Nat.zero_testBit] at this
          exact absurd this (by decide)
        · exact h1 n l (by omega) hrc
      · have hv0 : (nI v = (0 : Int32)) = False := eq_false (fun e => v0 (nI_inj (b := 0) (by omega) (by decide) e))
        obtain ⟨j0, hj0⟩ := bit_ne0 v0
        obtain ⟨l0, hr0, -⟩ := (a3 j0).mp hj0
        have hsg := S2 k l0 hr0
        have hsp := spt_le ht sd k
        have hgp := gnd_le ht sd k
        by_cases hT2 : spt t sd k ≤ T
        · have hgt : (nI T < nI (spt t sd k)) = False := eq_false (fun h => by
            have := Int32.lt_iff_toInt_lt.mp h
            rw [nI_toInt (by omega), nI_toInt (by omega)] at this
            omega)
          simp only [e69_11, e69_12, e69_13, e69_16, e69_17, e69_20, e69_21, e69_24, e69_26, e69_27, e69_30, e69_31, e69_34, e69_36, e69_37, e69_38, e69_41, e69_43, e69_44, e69_47, e69_49, e69_50, e69_53, e69_55, e69_58, true_or, or_true, true_and, and_true, Option.toList, List.cons_append, List.nil_append, if_true, if_false, reduceIte, sk11, sk31, sr31_1, sr31_3, sr31_4, sk35, sn35, sk37, sn37, sk38, sn38, htd.2.1, nI_shl (k := tS t) (by omega), hge, ek, ck, a2, hv0, hsg.1, hsg.2.1, hgt, mxe (a := r) (b := gnd t sd k) (by omega) (by omega), nI_1]
          refine ih (k + 1) _ (by omega) (by omega) (by split <;> omega) (fun n l hn hrc hs2 => ?_) ?_
          · by_cases e : n = k
            · subst e; split <;> omega
            · have := h1 n l (by omega) hrc hs2
              split <;> omega
          · split
            · exact ⟨k, l0, hr0, hT2, rfl⟩
            · exact h2
        · have hgt : (nI T < nI (spt t sd k)) = True := eq_true (nI_lt (by omega) (by omega))
          simp only [e69_11, e69_12, e69_13, e69_16, e69_17, e69_20, e69_21, e69_24, e69_26, e69_27, e69_30, e69_31, e69_34, e69_36, e69_37, e69_38, e69_41, e69_43, e69_44, e69_47, e69_49, e69_50, e69_53, e69_55, e69_58, true_or, or_true, true_and, and_true, Option.toList, List.cons_append, List.nil_append, if_true, if_false, reduceIte, sk11, sk31, sr31_1, sr31_3, sr31_4, sk35, sn35, sk37, sn37, sk38, sn38, htd.2.1, nI_shl (k := tS t) (by omega), hge, ek, ck, a2, hv0, hsg.1, hsg.2.1, hgt, nI_1]
          refine ih (k + 1) r (by omega) (by omega) hr (fun n l hn hrc hs2 => ?_) h2
          by_cases e : n = k
          · subst e; exact absurd hs2 hT2
          · exact h1 n l (by omega) hrc hs2
  simp only [e69_0, e69_1, e69_3, e69_4, e69_7, true_or, or_true, true_and, and_true, Option.toList, List.cons_append, List.nil_append, if_true, if_false, reduceIte, sk16, h162]
  exact key (2 ^ tS t - sd) sd 0 (by omega) (Nat.le_refl _) (by omega) (fun n l hn hr => absurd (Rc_ge hr) (by omega)) ⟨sd, la, Rc_0, by rw [spt_self]; omega, gnd_self t sd⟩
/-- the fewest words ahead of s, among the sets below k -/
def FW (t : gT) (f : Nat → Nat) (th sd : Nat) (la : Int32) (s k : Nat) (x : Int32) : Prop := (x = -9 ∧ ∀ n l, n < k → Rc t f th sd la n l → can t f th sd n l s = false) ∨ ∃ n l, Rc t f th sd la n l ∧ can t f th sd n l s = true ∧ x = nI (spt t sd n) ∧ ∀ n' l', n' < k → Rc t f th sd la n' l' → can t f th sd n' l' s = true → spt t sd n ≤ spt t sd n'
set_option maxHeartbeats 8000000 in
/-- fewestWordsAhead, from its loop on -/
theorem c76b {d s : Nat} {σ : ab_St} {Q : Option Value → ab_St → Prop} (ht : tok t) (htd : tdV σ 11 t) (hsd : sd < 2 ^ tS t) (hs : s < tS t) (hS : SPD σ t f th sd la) (hQ : ∀ x, FW t f th sd la s (2 ^ tS t) x → Q (some (.int x)) σ) : Ev (d + 1) 76 16 [some (.ref 31), some (.ref 11), some (.ref 16), some (.int (nI s)), some (.int (-9)), some (.int (nI sd))] [] σ Q := by
  have h8 := ht.2.1
  have h256 := two_le8 _ h8
  obtain ⟨S1, S2⟩ := hS
  have key : ∀ (m k : Nat) (x : Int32), k + m = 2 ^ tS t → sd ≤ k → FW t f th sd la s k x → Ev (d + 1) 76 16 [some (.ref 31), some (.ref 11), some (.ref 16), some (.int (nI s)), some (.int x), some (.int (nI k))] [] σ Q := by
    intro m
    induction m with
    | zero =>
      intro k x hk hsk h1
      have hk2 : k = 2 ^ tS t := by omega
      subst hk2
      have hge : (nI (2 ^ tS t) ≤ nI (2 ^ tS t)) = True := eq_true (nI_le (Nat.le_refl _) (by omega))
      rw [e76_16]
      simp only [e76_18, e76_19, e76_20, e76_23, e76_24, e76_27, e76_28, e76_31, e76_33, e76_34, e76_37, e76_38, e76_41, e76_43, e76_44, e76_45, e76_48, e76_51, e76_53, e76_55, e76_58, e76_59, e76_62, e76_64, e76_65, e76_67, e76_70, e76_71, e76_74, e76_76, e76_77, e76_79, e76_82, e76_85, e76_87, true_or, or_true, true_and, and_true, Option.toList, List.cons_append, List.nil_append, if_true, if_false, reduceIte, sk11, htd.2.1, nI_shl (k := tS t) (by omega), hge]
      exact hQ x h1
    | succ m ih =>
      intro k x hk hsk h1
      have hk2 : k < 2 ^ tS t := by omega
      have hge : (nI (2 ^ tS t) ≤ nI k) = False := eq_false (nI_ge hk2 (by omega))
      have ek := in_eq (j := k) (n := 256) (by omega) (by decide)
      have ck := nI_clamp (n := k) (by omega)
      obtain ⟨v, a1, a2, a3⟩ := S1 k hk2
      have skip : (∀ l, Rc t f th sd la k l → can t f th sd k l s = false) → FW t f th sd la s (k + 1) x := by
        intro hno
        rcases h1 with ⟨e, h⟩ | ⟨n, l, b1, b2, b3, b4⟩
        · refine Or.inl ⟨e, fun n l hn hr => ?_⟩
          by_cases e2 : n = k
          · subst e2; exact hno l hr
          · exact h n l (by omega) hr
        · refine Or.inr ⟨n, l, b1, b2, b3, fun n' l' hn' hr hc => ?_⟩
          by_cases e2 : n' = k
          · subst e2; rw [hno l' hr] at hc; exact absurd hc (by decide)
          · exact b4 n' l' (by omega) hr hc
      rw [e76_16]
      by_cases v0 : v = 0
      · subst v0
        simp only [e76_18, e76_19, e76_20, e76_23, e76_24, e76_27, e76_28, e76_31, e76_33, e76_34, e76_37, e76_38, e76_41, e76_43, e76_44, e76_45, e76_48, e76_51, e76_53, e76_55, e76_58, e76_59, e76_62, e76_64, e76_65, e76_67, e76_70, e76_71, e76_74, e76_76, e76_77, e76_79, e76_82, true_or, or_true, true_and, and_true, Option.toList, List.cons_append, List.nil_append, if_true, if_false, reduceIte, sk11, sk31, sr31_1, sk35, sn35, htd.2.1, nI_shl (k := tS t) (by omega), hge, ek, ck, a2, show (nI 0 = (0 : Int32)) = True from eq_true rfl, nI_1]
        refine ih (k + 1) x (by omega) (by omega) (skip (fun l hr => ?_))
        have := (a3 (lb l)).mpr ⟨l, hr, rfl⟩
        rw [Nat.zero_testBit] at this
        exact absurd this (by decide)
      · have hv0 : (nI v = (0 : Int32)) = False := eq_false (fun e => v0 (nI_inj (b := 0) (by omega) (by decide) e))
        obtain ⟨j0, hj0⟩ := bit_ne0 v0
        obtain ⟨l0, hr0, -⟩ := (a3 j0).mp hj0
        obtain ⟨q1, q2, o, q3, q4, q5⟩ := S2 k l0 hr0
        have hsp := spt_le ht sd k
        cases b : o.testBit s
        · simp only [e76_18, e76_19, e76_20, e76_23, e76_24, e76_27, e76_28, e76_31, e76_33, e76_34, e76_37, e76_38, e76_41, e76_43, e76_44, e76_45, e76_48, e76_51, e76_53, e76_55, e76_58, e76_59, e76_62, e76_64, e76_65, e76_67, e76_70, e76_71, e76_74, e76_76, e76_77, e76_79, e76_82, true_or, or_true, true_and, and_true, Option.toList, List.cons_append, List.nil_append, if_true, if_false, reduceIte, sk11, sk31, sr31_1, sr31_2, sk35, sn35, sk36, sn36, htd.2.1, nI_shl (k := tS t) (by omega), hge, ek, ck, a2, hv0, q4, c32 (s := o) (k := s) (by omega) (by omega), b, bI_0, nI_1]
          refine ih (k + 1) x (by omega) (by omega) (skip (fun l hr => ?_))
          cases hc : can t f th sd k l s
          · rfl
          · rw [(q5 s).mpr ⟨hs, l, hr, hc⟩] at b; exact absurd b (by decide)
        · obtain ⟨-, l1, hr1, hc1⟩ := (q5 s).mp b
          rcases h1 with ⟨e, h⟩ | ⟨n, l, b1, b2, b3, b4⟩
          · subst e
            simp only [e76_18, e76_19, e76_20, e76_23, e76_24, e76_27, e76_28, e76_31, e76_33, e76_34, e76_37, e76_38, e76_41, e76_43, e76_44, e76_45, e76_48, e76_51, e76_53, e76_55, e76_58, e76_59, e76_62, e76_64, e76_65, e76_67, e76_70, e76_71, e76_74, e76_76, e76_77, e76_79, e76_82, true_or, or_true, true_and, and_true, Option.toList, List.cons_append, List.nil_append, if_true, if_false, reduceIte, sk11, sk31, sr31_1, sr31_2, sr31_3, sk35, sn35, sk36, sn36, sk37, sn37, htd.2.1, nI_shl (k := tS t) (by omega), hge, ek, ck, a2, hv0, q1, q4, c32 (s := o) (k := s) (by omega) (by omega), b, bI_0, Bool.true_eq_false, nI_1]
            refine ih (k + 1) _ (by omega) (by omega) (Or.inr ⟨k, l1, hr1, hc1, rfl, fun n' l' hn' hr hc => ?_⟩)
            by_cases e2 : n' = k
            · rw [e2]; exact Nat.le_refl _
            · rw [h n' l' (by omega) hr] at hc; exact absurd hc (by decide)
          · subst b3
            have hsn := spt_le ht sd n
            by_cases hlt : spt t sd k < spt t sd n
            · have hge2 : (nI (spt t sd n) ≤ nI (spt t sd k)) = False := eq_false (nI_ge hlt (by omega))
              simp only [e76_18, e76_19, e76_20, e76_23, e76_24, e76_27, e76_28, e76_31, e76_33, e76_34, e76_37, e76_38, e76_41, e76_43, e76_44, e76_45, e76_48, e76_51, e76_53, e76_55, e76_58, e76_59, e76_62, e76_64, e76_65, e76_67, e76_70, e76_71, e76_74, e76_76, e76_77, e76_79, e76_82, true_or, or_true, true_and, and_true, Option.toList, List.cons_append, List.nil_append, if_true, if_false, reduceIte, sk11, sk31, sr31_1, sr31_2, sr31_3, sk35, sn35, sk36, sn36, sk37, sn37, htd.2.1, nI_shl (k := tS t) (by omega), hge, ek, ck, a2, hv0, q1, q4, c32 (s := o) (k := s) (by omega) (by omega), b, bI_0, Bool.true_eq_false, m9_ne (n := spt t sd n) (by omega), hge2, nI_1]
              refine ih (k + 1) _ (by omega) (by omega) (Or.inr ⟨k, l1, hr1, hc1, rfl, fun n' l' hn' hr hc => ?_⟩)
              by_cases e2 : n' = k
              · rw [e2]; exact Nat.le_refl _
              · have := b4 n' l' (by omega) hr hc
                omega
            · have hge2 : (nI (spt t sd n) ≤ nI (spt t sd k)) = True := eq_true (nI_le (by omega) (by omega))
              simp only [e76_18, e76_19, e76_20, e76_23, e76_24, e76_27, e76_28, e76_31, e76_33, e76_34, e76_37, e76_38, e76_41, e76_43, e76_44, e76_45, e76_48, e76_51, e76_53, e76_55, e76_58, e76_59, e76_62, e76_64, e76_65, e76_67, e76_70, e76_71, e76_74, e76_76, e76_77, e76_79, e76_82, true_or, or_true, true_and, and_true, Option.toList, List.cons_append, List.nil_append, if_true, if_false, reduceIte, sk11, sk31, sr31_1, sr31_2, sr31_3, sk35, sn35, sk36, sn36, sk37, sn37, htd.2.1, nI_shl (k := tS t) (by omega), hge, ek, ck, a2, hv0, q1, q4, c32 (s := o) (k := s) (by omega) (by omega), b, bI_0, Bool.true_eq_false, m9_ne (n := spt t sd n) (by omega), hge2, nI_1]
              refine ih (k + 1) _ (by omega) (by omega) (Or.inr ⟨n, l, b1, b2, rfl, fun n' l' hn' hr hc => ?_⟩)
              by_cases e2 : n' = k
              · rw [e2]; omega
              · exact b4 n' l' (by omega) hr hc
  exact key (2 ^ tS t - sd) sd (-9) (by omega) (Nat.le_refl _) (Or.inl ⟨rfl, fun n l hn hr => absurd (Rc_ge hr) (by omega)⟩)
end Top
