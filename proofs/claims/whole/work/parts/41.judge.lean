/-! JUDGE -/
theorem pw_nI : ∀ j : Fin 9, ab_pw j.val = nI (10 ^ j.val) := by decide +kernel
theorem pw_eq {j : Nat} (h : j < 9) : ab_pw j = nI (10 ^ j) := pw_nI ⟨j, h⟩
theorem p10_le {j : Nat} (h : j < 9) : 10 ^ j ≤ 100000000 := (Nat.pow_le_pow_right (by decide) (by omega) : 10 ^ j ≤ 10 ^ 8)
theorem p10_pos (j : Nat) : 0 < 10 ^ j := Nat.pow_pos (by decide)
/-- words when s is said -/
def utw (t : gT) (f : Nat → Nat) (s : Nat) : Nat → Nat := fun q => if q = tw t s then f (tw t s) + tz t s else f q
/-- the place of the first that may not be -/
def jgR (t : gT) (th : Nat) (dig : Nat → Nat) : Nat → Nat → (Nat → Nat) → Nat → Int32 → Int32
  | 0, _, _, _, _ => -9
  | k + 1, j, f, sd, la => if dig j < tS t ∧ alw t f th sd la (dig j) = true then jgR t th dig k (j + 1) (utw t f (dig j)) (sd ||| 2 ^ dig j) (nI (dig j)) else nI j
theorem alw_th {t : gT} {f : Nat → Nat} {th sd : Nat} {la : Int32} {s : Nat} (h : alw t f th sd la s = true) : th.testBit (tw t s) = true := by
  unfold alw at h
  simp only [Bool.and_eq_true] at h
  exact h.2.1
theorem dig10 (r e : Nat) : r / e % 10 < 10 := Nat.mod_lt _ (by decide)
theorem stO18 : stO 18 := ⟨rfl, rfl, rfl⟩
/-- nothing but these cells is changed -/
def ch (L : List Nat) (σ τ : ab_St) : Prop := (∀ c, c ∉ L → τ.1 c = σ.1 c) ∧ τ.2 = σ.2
theorem ch_rf (L : List Nat) (σ : ab_St) : ch L σ σ := ⟨fun _ _ => rfl, rfl⟩
theorem ch_w {L : List Nat} {σ τ : ab_St} {c : Nat} {g : Nat → Int32} (h : ch L σ τ) (hc : c ∈ L) : ch L σ (ab_wI τ c g) := ⟨fun k hk => by
  have hne : k ≠ c := fun e => hk (e ▸ hc)
  rw [wI_ne τ g hne]
  exact h.1 k hk, h.2⟩
theorem ch_tr {L : List Nat} {σ τ υ : ab_St} (h : ch L σ τ) (h2 : ch L τ υ) : ch L σ υ := ⟨fun c hc => (h2.1 c hc).trans (h.1 c hc), h2.2.trans h.2⟩
set_option maxHeartbeats 4000000 in
theorem jg_cls {t : gT} {th n r : Nat} (ht : tok t) (hn : n ≤ 8) (hr : r < 2 ^ 31) {Q : Option Value → ab_St → Prop} : ∀ (k j : Nat) (f : Nat → Nat) (sd : Nat) (la : Int32) (τ : ab_St) (l4 : Option Value), j + k = n → stV τ 18 f th → (∀ p, th.testBit p = true → f p + 9 * k < 100000) → τ.1 18 2 = nI sd → τ.1 18 3 = la → sd < 256 → tdV τ 11 t →
    (∀ υ, ch [18, 19] τ υ → Q (some (.int (jgR t th (fun j => r / 10 ^ (n - 1 - j) % 10) k j f sd la))) υ) → Ev 8 60 40 [some (.ref 0), some (.int (nI n)), some (.int (nI r)), some (.int (nI j)), l4] [] τ Q := by
  intro k
  induction k with
  | zero =>
    intro j f sd la τ l4 hj hv hb h2 h3 hs htd hQ
    rw [e60_40]
    have hge : nI n ≤ nI j := nI_le (by omega) (by omega)
    simp only [e60_0, e60_1, e60_2, e60_5, e60_6, e60_8, e60_11, e60_12, e60_15, e60_16, e60_19, e60_20, e60_21, e60_24, e60_26, e60_27, e60_28, e60_31, e60_32, e60_35, e60_38, e60_39, e60_41, e60_42, e60_45, e60_46, e60_49, e60_50, e60_51, e60_52, e60_53, e60_54, e60_55, e60_56, e60_58, e60_59, e60_61, e60_62, e60_65, e60_67, e60_70, e60_73, e60_74, e60_77, e60_78, e60_81, e60_83, e60_86, e60_89, e60_90, e60_91, e60_92, e60_95, e60_96, e60_99, e60_101, e60_104, e60_107, e60_110, e60_112, true_or, or_true, true_and, and_true, Option.toList, List.cons_append, List.nil_append, if_true, if_false, reduceIte, hge]
    exact hQ τ (ch_rf _ τ)
  | succ k ih =>
    intro j f sd la τ l4 hj hv hb h2 h3 hs htd hQ
    rw [e60_40]
    have hlt : (nI n ≤ nI j) = False := eq_false (nI_ge (by omega) (by omega))
    have e1 : nI n - 1 - nI j = nI (n - 1 - j) := by
      rw [show nI n - 1 = nI (n - 1) from pk_sub (a := n) (b := 1) (by omega), pk_sub (by omega)]
    have hp := p10_le (j := n - 1 - j) (by omega)
    have hpp := p10_pos (n - 1 - j)
    have e2 : ¬ nI (10 ^ (n - 1 - j)) = 0 := nI_ne0 hpp (by omega)
    have e3 : nI r / nI (10 ^ (n - 1 - j)) = nI (r / 10 ^ (n - 1 - j)) := pk_div hr hpp (by omega)
    have hdl : r / 10 ^ (n - 1 - j) < 2 ^ 31 := Nat.lt_of_le_of_lt (Nat.div_le_self _ _) hr
    have e4 : nI (r / 10 ^ (n - 1 - j)) - nI (r / 10 ^ (n - 1 - j)) / 10 * 10 = nI (r / 10 ^ (n - 1 - j) % 10) := pk_rem (d := 10) hdl (by decide) (by decide)
    have n10 : ¬ (10 : Int32) = 0 := by decide
    have hd10 := dig10 r (10 ^ (n - 1 - j))
    generalize hs0 : r / 10 ^ (n - 1 - j) % 10 = s at e4 hd10
    simp only [jgR, hs0] at hQ
    by_cases hs1 : s < tS t
    · have hin : inR (nI s) (tS t) = true := by rw [inR_nI (by omega)]; exact decide_eq_true hs1
      cases hal : alw t f th sd la s
      · simp only [hs1, hal, Bool.false_eq_true, and_false, if_false] at hQ
        simp only [e60_0, e60_1, e60_2, e60_5, e60_6, e60_8, e60_11, e60_12, e60_15, e60_16, e60_19, e60_20, e60_21, e60_24, e60_26, e60_27, e60_28, e60_31, e60_32, e60_35, e60_38, e60_39, e60_41, e60_42, e60_45, e60_46, e60_49, e60_50, e60_51, e60_52, e60_53, e60_54, e60_55, e60_56, e60_58, e60_59, e60_61, e60_62, e60_65, e60_67, e60_70, e60_73, e60_74, e60_77, e60_78, e60_81, e60_83, e60_86, e60_89, e60_90, e60_91, e60_92, e60_95, e60_96, e60_99, e60_101, e60_104, e60_107, e60_110, e60_112, true_or, or_true, true_and, and_true, Option.toList, List.cons_append, List.nil_append, if_true, if_false, reduceIte, hlt, e1, in_eq (j := n - 1 - j) (n := 9) (by omega) (by decide), nI_clamp (n := n - 1 - j) (by omega), pw_eq (j := n - 1 - j) (by omega), e2, e3, e4, n10, not_false_eq_true, sk0, sr0_2, sr0_4, sk11, sk18, c31 (d := 7) (x := nI s) sk11 htd.2.1 ht.2.1, hin, bI_0, Bool.true_eq_false, c46 (d := 5) stO18 hv h2 h3 hs tdO11 ht htd hs1, hal]
        exact hQ τ (ch_rf _ τ)
      · simp only [hs1, hal, and_self, if_true] at hQ
        have hth := alw_th hal
        have hx := hv.1 _ hth
        rw [sr18_0] at hx
        have hz := ht.2.2 s hs1
        have u49 := fun Q => c49 (d := 7) (c := 18) (w := 19) (c2 := 11) (s := s) (t := t) (sd := sd) (x := f (tw t s)) (σ := τ) (Q := Q) sk18 rfl sk19 sn19 tdO11 ht htd hs1 hx h2 hs (by decide) (by decide) (by decide)
        simp only [e60_0, e60_1, e60_2, e60_5, e60_6, e60_8, e60_11, e60_12, e60_15, e60_16, e60_19, e60_20, e60_21, e60_24, e60_26, e60_27, e60_28, e60_31, e60_32, e60_35, e60_38, e60_39, e60_41, e60_42, e60_45, e60_46, e60_49, e60_50, e60_51, e60_52, e60_53, e60_54, e60_55, e60_56, e60_58, e60_59, e60_61, e60_62, e60_65, e60_67, e60_70, e60_73, e60_74, e60_77, e60_78, e60_81, e60_83, e60_86, e60_89, e60_90, e60_91, e60_92, e60_95, e60_96, e60_99, e60_101, e60_104, e60_107, e60_110, e60_112, true_or, or_true, true_and, and_true, Option.toList, List.cons_append, List.nil_append, if_true, if_false, reduceIte, hlt, e1, in_eq (j := n - 1 - j) (n := 9) (by omega) (by decide), nI_clamp (n := n - 1 - j) (by omega), pw_eq (j := n - 1 - j) (by omega), e2, e3, e4, n10, not_false_eq_true, sk0, sr0_2, sr0_4, sk11, sk18, c31 (d := 7) (x := nI s) sk11 htd.2.1 ht.2.1, hin, bI_0, Bool.true_eq_false, c46 (d := 5) stO18 hv h2 h3 hs tdO11 ht htd hs1, hal, u49, nI_1]
        have hch : ch [18, 19] τ (ab_wI (ab_wI τ 19 (upd (τ.1 19) (tw t s) (nI (f (tw t s) + tz t s)))) 18 (upd (upd (τ.1 18) 2 (nI (sd ||| 2 ^ s))) 3 (nI s))) := ch_w (ch_w (ch_rf _ τ) (by decide)) (by decide)
        have S8 := ht.2.1
        refine ih (j + 1) (utw t f s) (sd ||| 2 ^ s) (nI s) _ _ (by omega) ⟨fun p hp2 => ?_, ?_, hv.2.2.1, fun p hp2 => ?_⟩ (fun p hp2 => ?_) ?_ ?_ (Nat.or_lt_two_pow (n := 8) hs (Nat.lt_of_lt_of_le (Nat.pow_lt_pow_right (by decide) (show s < 8 by omega)) (Nat.le_refl _))) (tdV_ag htd (fun c hc => hch.1 c (by revert c; decide))) (fun υ hυ => hQ υ (ch_tr hch hυ))
        · rw [sr18_0]
          simp only [wI_get, upd_get, Nat.reduceEqDiff, reduceIte, if_true, if_false, utw]
          split
          · rfl
          · have := hv.1 p hp2; rw [sr18_0] at this; exact this
        · simp only [wI_get, upd_get, Nat.reduceEqDiff, reduceIte, if_true, if_false]; exact hv.2.1
        · unfold utw
          have := hb p hp2
          have := hb _ hth
          split <;> omega
        · unfold utw
          have := hb p hp2
          have := hb _ hth
          split <;> omega
        · simp only [wI_get, upd_get, Nat.reduceEqDiff, reduceIte, if_true, if_false]
        · simp only [wI_get, upd_get, Nat.reduceEqDiff, reduceIte, if_true, if_false]
    · have hin : inR (nI s) (tS t) = false := by rw [inR_nI (by omega)]; exact decide_eq_false hs1
      simp only [hs1, false_and, if_false] at hQ
      simp only [e60_0, e60_1, e60_2, e60_5, e60_6, e60_8, e60_11, e60_12, e60_15, e60_16, e60_19, e60_20, e60_21, e60_24, e60_26, e60_27, e60_28, e60_31, e60_32, e60_35, e60_38, e60_39, e60_41, e60_42, e60_45, e60_46, e60_49, e60_50, e60_51, e60_52, e60_53, e60_54, e60_55, e60_56, e60_58, e60_59, e60_61, e60_62, e60_65, e60_67, e60_70, e60_73, e60_74, e60_77, e60_78, e60_81, e60_83, e60_86, e60_89, e60_90, e60_91, e60_92, e60_95, e60_96, e60_99, e60_101, e60_104, e60_107, e60_110, e60_112, true_or, or_true, true_and, and_true, Option.toList, List.cons_append, List.nil_append, if_true, if_false, reduceIte, hlt, e1, in_eq (j := n - 1 - j) (n := 9) (by omega) (by decide), nI_clamp (n := n - 1 - j) (by omega), pw_eq (j := n - 1 - j) (by omega), e2, e3, e4, n10, not_false_eq_true, sk0, sr0_2, sr0_4, sk11, sk18, c31 (d := 7) (x := nI s) sk11 htd.2.1 ht.2.1, hin, bI_0]
      exact hQ τ (ch_rf _ τ)
/-- the model's scratch -/
def mS : List Nat := [50, 57, 58, 59, 60, 61, 65, 66, 67, 68, 69]
/-- of the model's numbers, those that nobody keeps -/
def c5 (σ τ : ab_St) : Prop := ∀ k, k ∈ [2, 4, 5, 7, 8, 13, 14, 25] → τ.1 50 k = σ.1 50 k
theorem sam_m {σ τ : ab_St} (h : ∀ c, c ∉ mS → τ.1 c = σ.1 c) (h5 : c5 σ τ) : sam σ τ := ⟨fun c hc => h c (by revert c; decide), h5, by rw [h 9 (by decide)], by rw [h 9 (by decide)]⟩
def chM (σ τ : ab_St) : Prop := (∀ c, c ∉ mS → τ.1 c = σ.1 c) ∧ c5 σ τ
theorem chM_sam {σ τ : ab_St} (h : chM σ τ) : sam σ τ := sam_m h.1 h.2
theorem chM_rf (σ : ab_St) : chM σ σ := ⟨fun _ _ => rfl, fun _ _ => rfl⟩
theorem chM_tr {σ τ υ : ab_St} (h : chM σ τ) (h2 : chM τ υ) : chM σ υ := ⟨fun c hc => (h2.1 c hc).trans (h.1 c hc), fun k hk => (h2.2 k hk).trans (h.2 k hk)⟩
theorem chM_w {σ τ : ab_St} {c : Nat} {g : Nat → Int32} (h : chM σ τ) (hc : c ∈ mS) (hc2 : 50 ≠ c) : chM σ (ab_wI τ c g) := ⟨fun k hk => by
  have hne : k ≠ c := fun e => hk (e ▸ hc)
  rw [wI_ne τ g hne]
  exact h.1 k hk, fun k hk => by rw [wI_ne τ g hc2]; exact h.2 k hk⟩
theorem chM_50 {σ τ : ab_St} {g : Nat → Int32} (h : chM σ τ) (hg : ∀ k, k ∈ [2, 4, 5, 7, 8, 13, 14, 25] → g k = τ.1 50 k) : chM σ (ab_wI τ 50 g) := ⟨fun k hk => by
  have hne : k ≠ 50 := fun e => hk (e ▸ (by decide : 50 ∈ mS))
  rw [wI_ne τ g hne]
  exact h.1 k hk, fun k hk => by rw [wI_eq, hg k hk]; exact h.2 k hk⟩
set_option maxHeartbeats 4000000 in
theorem jg_mod {t : gT} {th n r : Nat} (ht : tok t) (hn : n ≤ 8) (hr : r < 2 ^ 31) {Q : Option Value → ab_St → Prop} : ∀ (k j : Nat) (f : Nat → Nat) (sd : Nat) (la : Int32) (τ : ab_St) (l5 : Option Value), j + k = n → mlV τ (tP t) f th → (∀ p, th.testBit p = true → f p + 9 * k < 99999) → τ.1 50 29 = nI sd → τ.1 50 30 = la → sd < 256 → mdV τ t →
    (∀ υ, chM τ υ → Q (some (.int (jgR t th (fun j => r / 10 ^ (n - 1 - j) % 10) k j f sd la))) υ) → Ev 8 132 65 [some (.ref 50), some (.int (nI n)), some (.int (nI r)), some (.int (nI (10 ^ k))), some (.int (nI j)), l5] [] τ Q := by
  intro k
  induction k with
  | zero =>
    intro j f sd la τ l5 hj hv hb h2 h3 hs htd hQ
    rw [e132_65]
    have hge : nI n ≤ nI j := nI_le (by omega) (by omega)
    simp only [e132_0, e132_1, e132_2, e132_5, e132_6, e132_7, e132_8, e132_11, e132_14, e132_17, e132_19, e132_20, e132_21, e132_22, e132_23, e132_27, e132_28, e132_31, e132_32, e132_34, e132_35, e132_36, e132_39, e132_42, e132_43, e132_44, e132_45, e132_46, e132_47, e132_48, e132_49, e132_52, e132_55, e132_57, e132_58, e132_59, e132_62, e132_63, e132_67, e132_68, e132_71, e132_72, e132_74, e132_75, e132_76, e132_77, e132_78, e132_79, e132_81, e132_82, e132_84, e132_85, e132_87, e132_90, e132_93, e132_94, e132_96, e132_99, e132_102, e132_104, e132_105, e132_106, e132_108, e132_111, e132_114, e132_117, e132_119, true_or, or_true, true_and, and_true, Option.toList, List.cons_append, List.nil_append, if_true, if_false, reduceIte, hge]
    exact hQ τ (chM_rf τ)
  | succ k ih =>
    intro j f sd la τ l5 hj hv hb h2 h3 hs htd hQ
    rw [e132_65]
    have hlt : (nI n ≤ nI j) = False := eq_false (nI_ge (by omega) (by omega))
    have hk8 : n - 1 - j = k := by omega
    have hp1 := p10_le (j := k + 1) (by omega)
    have hp := p10_le (j := k) (by omega)
    have hpp := p10_pos k
    have e0 : nI (10 ^ (k + 1)) / 10 = nI (10 ^ k) := by
      rw [show (10 : Int32) = nI 10 from rfl, pk_div (by omega) (by decide) (by decide), Nat.pow_succ, Nat.mul_div_cancel _ (by decide)]
    have e2 : ¬ nI (10 ^ k) = 0 := nI_ne0 hpp (by omega)
    have e3 : nI r / nI (10 ^ k) = nI (r / 10 ^ k) := pk_div hr hpp (by omega)
    have hdl : r / 10 ^ k < 2 ^ 31 := Nat.lt_of_le_of_lt (Nat.div_le_self _ _) hr
    have e4 : nI (r / 10 ^ k) - nI (r / 10 ^ k) / 10 * 10 = nI (r / 10 ^ k % 10) := pk_rem (d := 10) hdl (by decide) (by decide)
    have n10 : ¬ (10 : Int32) = 0 := by decide
    have hd10 := dig10 r (10 ^ k)
    simp only [jgR, hk8] at hQ
    generalize hs0 : r / 10 ^ k % 10 = s at e4 hd10 hQ
    by_cases hs1 : s < tS t
    · have hin : inR (nI s) (tS t) = true := by rw [inR_nI (by omega)]; exact decide_eq_true hs1
      cases hal : alw t f th sd la s
      · simp only [hs1, hal, Bool.false_eq_true, and_false, if_false] at hQ
        simp only [e132_0, e132_1, e132_2, e132_5, e132_6, e132_7, e132_8, e132_11, e132_14, e132_17, e132_19, e132_20, e132_21, e132_22, e132_23, e132_27, e132_28, e132_31, e132_32, e132_34, e132_35, e132_36, e132_39, e132_42, e132_43, e132_44, e132_45, e132_46, e132_47, e132_48, e132_49, e132_52, e132_55, e132_57, e132_58, e132_59, e132_62, e132_63, e132_67, e132_68, e132_71, e132_72, e132_74, e132_75, e132_76, e132_77, e132_78, e132_79, e132_81, e132_82, e132_84, e132_85, e132_87, e132_90, e132_93, e132_94, e132_96, e132_99, e132_102, e132_104, e132_105, e132_106, e132_108, e132_111, e132_114, e132_117, e132_119, true_or, or_true, true_and, and_true, Option.toList, List.cons_append, List.nil_append, if_true, if_false, reduceIte, hlt, e0, e2, e3, e4, n10, not_false_eq_true, sk50, c119 htd.2.1 ht.2.1, hin, bI_0, Bool.not_true, Bool.true_eq_false, c122 (d := 5) ht htd hv h2 h3 hs hs1, hal]
        exact hQ τ (chM_rf τ)
      · simp only [hs1, hal, and_self, if_true] at hQ
        have hth := alw_th hal
        have hx := hv.2.1 _ hth
        have hz := ht.2.2 s hs1
        simp only [e132_0, e132_1, e132_2, e132_5, e132_6, e132_7, e132_8, e132_11, e132_14, e132_17, e132_19, e132_20, e132_21, e132_22, e132_23, e132_27, e132_28, e132_31, e132_32, e132_34, e132_35, e132_36, e132_39, e132_42, e132_43, e132_44, e132_45, e132_46, e132_47, e132_48, e132_49, e132_52, e132_55, e132_57, e132_58, e132_59, e132_62, e132_63, e132_67, e132_68, e132_71, e132_72, e132_74, e132_75, e132_76, e132_77, e132_78, e132_79, e132_81, e132_82, e132_84, e132_85, e132_87, e132_90, e132_93, e132_94, e132_96, e132_99, e132_102, e132_104, e132_105, e132_106, e132_108, e132_111, e132_114, e132_117, e132_119, true_or, or_true, true_and, and_true, Option.toList, List.cons_append, List.nil_append, if_true, if_false, reduceIte, hlt, e0, e2, e3, e4, n10, not_false_eq_true, sk50, c119 htd.2.1 ht.2.1, hin, bI_0, Bool.not_true, Bool.true_eq_false, c122 (d := 5) ht htd hv h2 h3 hs hs1, hal, c133 (d := 7) ht htd hs1 hx h2 hs, nI_1]
        have hch : chM τ (ab_wI (ab_wI τ 65 (upd (τ.1 65) (tw t s) (nI (f (tw t s) + tz t s)))) 50 (upd (upd (τ.1 50) 29 (nI (sd ||| 2 ^ s))) 30 (nI s))) := by
          refine chM_50 (chM_w (chM_rf τ) (by decide) (by decide)) (fun q hq => ?_)
          rw [wI_ne _ _ (by decide)]
          simp only [List.mem_cons, List.not_mem_nil, or_false] at hq
          rw [upd_ne _ _ (by omega), upd_ne _ _ (by omega)]
        have S8 := ht.2.1
        refine ih (j + 1) (utw t f s) (sd ||| 2 ^ s) (nI s) _ _ (by omega) ⟨?_, fun p hp2 => ?_, ?_, hv.2.2.2.1, hv.2.2.2.2.1, fun p hp2 => ?_⟩ (fun p hp2 => ?_) ?_ ?_ (Nat.or_lt_two_pow (n := 8) hs (Nat.lt_of_lt_of_le (Nat.pow_lt_pow_right (by decide) (show s < 8 by omega)) (Nat.le_refl _))) (mdV_ag htd (fun c hc => hch.1 c (by revert c; decide)) (fun c hc => hch.2 c (by revert c; decide))) (fun υ hυ => hQ υ (chM_tr hch hυ))
        · simp only [wI_get, upd_get, Nat.reduceEqDiff, reduceIte, if_true, if_false]; exact hv.1
        · simp only [wI_get, upd_get, Nat.reduceEqDiff, reduceIte, if_true, if_false, utw]
          split
          · rfl
          · exact hv.2.1 p hp2
        · simp only [wI_get, upd_get, Nat.reduceEqDiff, reduceIte, if_true, if_false]; exact hv.2.2.1
        · unfold utw
          have := hb p hp2
          have := hb _ hth
          split <;> omega
        · unfold utw
          have := hb p hp2
          have := hb _ hth
          split <;> omega
        · simp only [wI_get, upd_get, Nat.reduceEqDiff, reduceIte, if_true, if_false]
        · simp only [wI_get, upd_get, Nat.reduceEqDiff, reduceIte, if_true, if_false]
    · have hin : inR (nI s) (tS t) = false := by rw [inR_nI (by omega)]; exact decide_eq_false hs1
      simp only [hs1, false_and, if_false] at hQ
      simp only [e132_0, e132_1, e132_2, e132_5, e132_6, e132_7, e132_8, e132_11, e132_14, e132_17, e132_19, e132_20, e132_21, e132_22, e132_23, e132_27, e132_28, e132_31, e132_32, e132_34, e132_35, e132_36, e132_39, e132_42, e132_43, e132_44, e132_45, e132_46, e132_47, e132_48, e132_49, e132_52, e132_55, e132_57, e132_58, e132_59, e132_62, e132_63, e132_67, e132_68, e132_71, e132_72, e132_74, e132_75, e132_76, e132_77, e132_78, e132_79, e132_81, e132_82, e132_84, e132_85, e132_87, e132_90, e132_93, e132_94, e132_96, e132_99, e132_102, e132_104, e132_105, e132_106, e132_108, e132_111, e132_114, e132_117, e132_119, true_or, or_true, true_and, and_true, Option.toList, List.cons_append, List.nil_append, if_true, if_false, reduceIte, hlt, e0, e2, e3, e4, n10, not_false_eq_true, sk50, c119 htd.2.1 ht.2.1, hin, bI_0, Bool.not_false, Bool.true_eq_false]
      exact hQ τ (chM_rf τ)
