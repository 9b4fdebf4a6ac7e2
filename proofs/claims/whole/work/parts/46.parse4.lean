/-! THE MODEL'S READER -/
/-- the model's text, and its place -/
def mTx (τ : ab_St) (tn : Nat) (tx : Nat → Nat) : Prop := tn ≤ 64 ∧ τ.1 50 2 = nI tn ∧ ∀ j, j < tn → tx j < 256 ∧ τ.1 51 j = nI (tx j)
/-- only the reader's cells of the model are changed -/
def chP (σ τ : ab_St) : Prop := (∀ c, c ∉ [50, 57, 58, 59, 60, 61] → τ.1 c = σ.1 c) ∧ ∀ k, k ∉ [3, 15, 16, 18, 19] → τ.1 50 k = σ.1 50 k
theorem chP_rf (σ : ab_St) : chP σ σ := ⟨fun _ _ => rfl, fun _ _ => rfl⟩
theorem chP_tr {σ τ υ : ab_St} (h : chP σ τ) (h2 : chP τ υ) : chP σ υ := ⟨fun c hc => (h2.1 c hc).trans (h.1 c hc), fun k hk => (h2.2 k hk).trans (h.2 k hk)⟩
theorem chP_w {σ τ : ab_St} {c : Nat} {g : Nat → Int32} (h : chP σ τ) (hc : c ∈ [57, 58, 59, 60, 61]) : chP σ (ab_wI τ c g) := by
  have hc5 : 50 ≠ c := fun e => by rw [← e] at hc; revert hc; decide
  refine ⟨fun k hk => ?_, fun k hk => ?_⟩
  · have hm : ∀ c ∈ [57, 58, 59, 60, 61], c ∈ [50, 57, 58, 59, 60, 61] := by decide
    have hne : k ≠ c := fun e => hk (e ▸ hm c hc)
    rw [wI_ne τ g hne]; exact h.1 k hk
  · rw [wI_ne τ g hc5]; exact h.2 k hk
theorem chP_50 {σ τ : ab_St} {j : Nat} {x : Int32} (h : chP σ τ) (hj : j ∈ [3, 15, 16, 18, 19]) : chP σ (ab_wI τ 50 (upd (τ.1 50) j x)) := by
  refine ⟨fun k hk => ?_, fun k hk => ?_⟩
  · have hne : k ≠ 50 := fun e => hk (by rw [e]; decide)
    rw [wI_ne τ _ hne]; exact h.1 k hk
  · have hne : k ≠ j := fun e => hk (e ▸ hj)
    rw [wI_eq, upd_ne _ _ hne]; exact h.2 k hk
theorem chP_M {σ τ : ab_St} (h : chP σ τ) : chM σ τ := by
  have hm : ∀ c ∈ [50, 57, 58, 59, 60, 61], c ∈ mS := by decide
  exact ⟨fun c hc => h.1 c (fun z => hc (hm c z)), fun k hk => h.2 k (by revert k; decide)⟩
theorem mTx_ch {σ τ : ab_St} {tn : Nat} {tx : Nat → Nat} (h : mTx σ tn tx) (hc : chP σ τ) : mTx τ tn tx := ⟨h.1, by rw [hc.2 2 (by decide)]; exact h.2.1, by rw [hc.1 51 (by decide)]; exact h.2.2⟩
theorem fig_in {b lo hi : Nat} (hb : b < 256) (hlo : lo < 100) (hhi : hi < 100) : decide ((nI lo).toInt64 ≤ (nI b - 48).toInt64 ∧ (nI b - 48).toInt64 ≤ (nI hi).toInt64) = decide (48 + lo ≤ b ∧ b ≤ 48 + hi) := by
  congr 1
  apply propext
  have h1 : (nI b - 48).toInt = (b : Int) - 48 := pk_sub_toInt (a := b) (b := 48) (by omega) (by decide)
  rw [Int64.le_iff_toInt_le, Int64.le_iff_toInt_le, Int32.toInt_toInt64, Int32.toInt_toInt64, Int32.toInt_toInt64, h1, nI_toInt (by omega), nI_toInt (by omega)]
  omega
set_option maxHeartbeats 4000000 in
/-- figure -/
theorem c105 {d i tn lo hi : Nat} {tx : Nat → Nat} {τ : ab_St} {Q : Option Value → ab_St → Prop} (hx : mTx τ tn tx) (hi2 : i ≤ tn) (v3 : τ.1 50 3 = nI i) (hlo : lo < 100) (hhi : hi < 100)
    (h1 : i < tn → 48 + lo ≤ tx i → tx i ≤ 48 + hi → Q (some (.int (nI (tx i - 48)))) (ab_wI τ 50 (upd (τ.1 50) 3 (nI (i + 1))))) (h0 : ¬ (i < tn ∧ 48 + lo ≤ tx i ∧ tx i ≤ 48 + hi) → Q (some (.int (-9))) τ) : Ev (d + 1) 105 0 [some (.ref 50), some (.int (nI lo)), some (.int (nI hi))] [] τ Q := by
  obtain ⟨x1, x2, x3⟩ := hx
  by_cases hl : i < tn
  · have hne : (nI i = nI tn) = False := eq_false (fun e => by have := nI_inj (by omega) (by omega) e; omega)
    have x3' := x3 i hl
    by_cases hc : 48 + lo ≤ tx i ∧ tx i ≤ 48 + hi
    · have em : nI (i + 1) - 1 = nI i := nI_pred i
      have es : nI (tx i) - 48 = nI (tx i - 48) := pk_sub (a := tx i) (b := 48) (by omega)
      simp only [e105_0, e105_1, e105_4, e105_5, e105_8, e105_11, e105_12, e105_15, e105_16, e105_19, e105_20, e105_22, e105_23, e105_24, e105_25, e105_26, e105_27, e105_28, e105_31, e105_34, e105_36, e105_37, e105_38, e105_39, e105_42, e105_43, e105_44, e105_47, e105_48, e105_51, e105_52, e105_55, e105_56, e105_57, e105_58, e105_60, e105_61, true_or, or_true, true_and, and_true, Option.toList, List.cons_append, List.nil_append, if_true, if_false, reduceIte, wI_get, upd_get, Nat.reduceEqDiff, reduceIte, if_true, if_false, sk50, sr50_1, sk51, sn51, v3, x2, hne, in_eq (j := i) (n := 64) (by omega) (by decide), nI_clamp (n := i) (by omega), x3'.2, c101, fig_in x3'.1 hlo hhi, decide_eq_true hc, bI_0, Bool.true_eq_false, nI_1, em]
      rw [es]
      exact h1 hl hc.1 hc.2
    · simp only [e105_0, e105_1, e105_4, e105_5, e105_8, e105_11, e105_12, e105_15, e105_16, e105_19, e105_20, e105_22, e105_23, e105_24, e105_25, e105_26, e105_27, e105_28, e105_31, e105_34, e105_36, e105_37, e105_38, e105_39, e105_42, e105_43, e105_44, e105_47, e105_48, e105_51, e105_52, e105_55, e105_56, e105_57, e105_58, e105_60, e105_61, true_or, or_true, true_and, and_true, Option.toList, List.cons_append, List.nil_append, if_true, if_false, reduceIte, wI_get, upd_get, Nat.reduceEqDiff, reduceIte, if_true, if_false, sk50, sr50_1, sk51, sn51, v3, x2, hne, in_eq (j := i) (n := 64) (by omega) (by decide), nI_clamp (n := i) (by omega), x3'.2, c101, fig_in x3'.1 hlo hhi, decide_eq_false hc, bI_0]
      exact h0 (fun z => hc z.2)
  · have he : (nI i = nI tn) = True := eq_true (by rw [show i = tn by omega])
    simp only [e105_0, e105_1, e105_4, e105_5, e105_8, e105_11, e105_12, e105_15, e105_16, e105_19, e105_20, e105_22, e105_23, e105_24, e105_25, e105_26, e105_27, e105_28, e105_31, e105_34, e105_36, e105_37, e105_38, e105_39, e105_42, e105_43, e105_44, e105_47, e105_48, e105_51, e105_52, e105_55, e105_56, e105_57, e105_58, e105_60, e105_61, true_or, or_true, true_and, and_true, Option.toList, List.cons_append, List.nil_append, if_true, if_false, reduceIte, wI_get, upd_get, Nat.reduceEqDiff, reduceIte, if_true, if_false, sk50, v3, x2, he]
    exact h0 (fun z => hl z.1)
/-- the model's reader holds p between two parts -/
def RM (τ : ab_St) (p : pS) : Prop := match p with
  | (_, (P, S, w, z, v, a), f, th, lw, _) => τ.1 50 15 = nI lw ∧ τ.1 50 16 = nI P ∧ τ.1 50 18 = nI th ∧ τ.1 50 19 = nI S ∧ (∀ q, q < P → τ.1 57 q = nI (f q)) ∧ ∀ s, s < S → τ.1 58 s = nI (w s) ∧ τ.1 59 s = nI (z s) ∧ τ.1 60 s = nI (v s) ∧ τ.1 61 s = a s
theorem RM_ch {σ τ : ab_St} {p : pS} (h : RM σ p) (hc : ∀ c, c ∈ [57, 58, 59, 60, 61] → τ.1 c = σ.1 c) (h5 : ∀ k, k ∈ [15, 16, 18, 19] → τ.1 50 k = σ.1 50 k) : RM τ p := by
  obtain ⟨due, ⟨P, S, w, z, v, a⟩, f, th, lw, an⟩ := p
  obtain ⟨a1, a2, a3, a4, a5, a6⟩ := h
  refine ⟨by rw [h5 15 (by decide)]; exact a1, by rw [h5 16 (by decide)]; exact a2, by rw [h5 18 (by decide)]; exact a3, by rw [h5 19 (by decide)]; exact a4, by rw [hc 57 (by decide)]; exact a5, by rw [hc 58 (by decide), hc 59 (by decide), hc 60 (by decide), hc 61 (by decide)]; exact a6⟩
/-- what a part of the model's reader comes to: it ends with the fault at its place, or goes on -/
def prt (Q : Option Value → ab_St → Prop) (σ : ab_St) (tx : Nat → Nat) (tn i : Nat) (p : pS) : Prop :=
  (∀ (j : Nat) (τ : ab_St), j ≤ tn → chP σ τ → τ.1 50 3 = nI j → (prn tx tn (tn - i) i p).1 = nI j → Q (some (.int 0)) τ) ∧
  (∀ (j : Nat) (p2 : pS) (τ : ab_St), i < j → j ≤ tn → p2.1 = 2 → pI p2 → chP σ τ → τ.1 50 3 = nI j → RM τ p2 → prn tx tn (tn - i) i p = prn tx tn (tn - j) j p2 → Q (some (.int 1)) τ)
theorem prn_at {tx : Nat → Nat} {tn i : Nat} {p : pS} (h : i < tn) : prn tx tn (tn - i) i p = match pst p (tx i) with
    | none => (nI i, p)
    | some p2 => prn tx tn (tn - (i + 1)) (i + 1) p2 := by
  rw [show tn - i = tn - (i + 1) + 1 by omega]
  rfl
theorem prn_tn {tx : Nat → Nat} {tn i : Nat} {p : pS} (h : i = tn) : prn tx tn (tn - i) i p = (if p.1 = 2 then -9 else nI tn, p) := by
  rw [show tn - i = 0 by omega]
  rfl
theorem m9_ne {n : Nat} (h : n < 2 ^ 31) : (nI n = -9) = False := eq_false (nI_m9 h)
set_option maxHeartbeats 8000000 in
/-- readPerson -/
theorem c107 {d i tn P S : Nat} {w z v : Nat → Nat} {a : Nat → Int32} {f : Nat → Nat} {th lw an : Nat} {x : Int32} {th2 : Nat} {tx : Nat → Nat} {σ : ab_St} {Q : Option Value → ab_St → Prop} (hx : mTx σ tn tx) (hi : i ≤ tn) (v3 : σ.1 50 3 = nI i) (hI : pI (3, (P, S, w, z, v, a), f, th2, lw, an)) (hR : RM σ (2, (P, S, w, z, v, a), f, th, lw, an)) (hth : th < 2 ^ P) (hth2 : (x = 1 ∧ th2 = th ||| 2 ^ P) ∨ (x = 0 ∧ th2 = th)) (hQ : prt Q σ tx tn i (3, (P, S, w, z, v, a), f, th2, lw, an)) : Ev (d + 2) 107 0 [some (.ref 50), some (.int x), none, none] [] σ Q := by
  obtain ⟨hQ0, hQ1⟩ := hQ
  obtain ⟨b1, b2, b3, b4, b5, b6⟩ := hR
  have hP := hI.2.2.2.1 (Or.inl rfl)
  simp only [e107_0, e107_1, e107_2, e107_4, true_or, or_true, true_and, and_true, Option.toList, List.cons_append, List.nil_append, if_true, if_false, reduceIte, sk50]
  refine c105 (lo := 0) (hi := 9) hx hi v3 (by decide) (by decide) (fun hl hg1 hg2 => ?_) (fun hn => ?_)
  · have hs1 : pst (3, (P, S, w, z, v, a), f, th2, lw, an) (tx i) = some (4, (P, S, w, z, v, a), uN f P (10 * (tx i - 48)), th2, lw, an) := by simp [pst]; omega
    have hI4 := pI_step hI hs1
    have hx2 : mTx (ab_wI σ 50 (upd (σ.1 50) 3 (nI (i + 1)))) tn tx := mTx_ch hx (chP_50 (chP_rf σ) (by decide))
    simp only [e107_7, e107_8, e107_9, e107_11, e107_19, e107_20, e107_21, e107_23, true_or, or_true, true_and, and_true, Option.toList, List.cons_append, List.nil_append, if_true, if_false, reduceIte, sk50, m9_ne (n := tx i - 48) (by omega)]
    refine c105 (lo := 0) (hi := 9) (i := i + 1) hx2 (by omega) (by simp only [wI_get, upd_get, Nat.reduceEqDiff, reduceIte, if_true, if_false]) (by decide) (by decide) (fun hl2 hg3 hg4 => ?_) (fun hn => ?_)
    · have hs2 : pst (4, (P, S, w, z, v, a), uN f P (10 * (tx i - 48)), th2, lw, an) (tx (i + 1)) = some (2, (P + 1, S, w, z, v, a), uN (uN f P (10 * (tx i - 48))) P (uN f P (10 * (tx i - 48)) P + (tx (i + 1) - 48)), th2, lw, an) := by simp [pst]; omega
      have hI2 := pI_step hI4 hs2
      have em : (10 : Int32) * nI (tx i - 48) + nI (tx (i + 1) - 48) = nI (10 * (tx i - 48) + (tx (i + 1) - 48)) := by rw [show (10 : Int32) * nI (tx i - 48) = nI (10 * (tx i - 48)) from pk_mul 10 _, nI_add]
      have h64 : th < 64 := Nat.lt_of_lt_of_le hth (two_le _ (by omega))
      have eth : nI th ||| 1 <<< (nI P &&& 31) = nI (th ||| 2 ^ P) := nI_set (by omega) (by omega)
      have eth0 : nI th ||| 0 = nI th := by rw [show (0 : Int32) = nI 0 from rfl, nI_or (by omega) (by decide), Nat.or_zero]
      have hfin : ∀ (τ : ab_St), τ = ab_wI (ab_wI (ab_wI (ab_wI (ab_wI σ 50 (upd (σ.1 50) 3 (nI (i + 1)))) 50 (upd (upd (σ.1 50) 3 (nI (i + 1))) 3 (nI (i + 1 + 1)))) 57 (upd (σ.1 57) P (nI (10 * (tx i - 48) + (tx (i + 1) - 48))))) 50 (upd (upd (upd (σ.1 50) 3 (nI (i + 1))) 3 (nI (i + 1 + 1))) 18 (nI th2))) 50 (upd (upd (upd (upd (σ.1 50) 3 (nI (i + 1))) 3 (nI (i + 1 + 1))) 18 (nI th2)) 16 (nI (P + 1))) → Q (some (.int 1)) τ := by
        intro τ hτ
        have t50 : τ.1 50 = upd (upd (upd (upd (σ.1 50) 3 (nI (i + 1))) 3 (nI (i + 1 + 1))) 18 (nI th2)) 16 (nI (P + 1)) := by rw [hτ]; simp only [wI_get, upd_get, Nat.reduceEqDiff, reduceIte, if_true, if_false]
        have t57 : τ.1 57 = upd (σ.1 57) P (nI (10 * (tx i - 48) + (tx (i + 1) - 48))) := by rw [hτ]; simp only [wI_get, upd_get, Nat.reduceEqDiff, reduceIte, if_true, if_false]
        have to : ∀ c, c ≠ 50 → c ≠ 57 → τ.1 c = σ.1 c := fun c h1 h2 => by
          rw [hτ]
          simp only [wI_get, if_neg h1, if_neg h2]
        refine hQ1 (i + 2) _ τ (by omega) (by omega) rfl hI2 ⟨fun c hc => to c (fun e => hc (by rw [e]; decide)) (fun e => hc (by rw [e]; decide)), fun k hk => ?_⟩ ?_ ⟨?_, ?_, ?_, ?_, fun q hq => ?_, ?_⟩ ?_
        · rw [t50]
          simp only [List.mem_cons, List.not_mem_nil, or_false, not_or] at hk
          rw [upd_ne _ _ hk.2.2.1, upd_ne _ _ hk.2.2.2.1, upd_ne _ _ hk.1, upd_ne _ _ hk.1]
        · rw [t50]; simp only [wI_get, upd_get, Nat.reduceEqDiff, reduceIte, if_true, if_false]
        · rw [t50]; simp only [wI_get, upd_get, Nat.reduceEqDiff, reduceIte, if_true, if_false]; exact b1
        · rw [t50]; simp only [wI_get, upd_get, Nat.reduceEqDiff, reduceIte, if_true, if_false]
        · rw [t50]; simp only [wI_get, upd_get, Nat.reduceEqDiff, reduceIte, if_true, if_false]
        · rw [t50]; simp only [wI_get, upd_get, Nat.reduceEqDiff, reduceIte, if_true, if_false]; exact b4
        · rw [t57]
          by_cases e : q = P
          · subst e; rw [upd_eq, uN_eq, uN_eq]
          · rw [upd_ne _ _ e, uN_ne _ _ e, uN_ne _ _ e]; exact b5 q (by omega)
        · rw [to 58 (by decide) (by decide), to 59 (by decide) (by decide), to 60 (by decide) (by decide), to 61 (by decide) (by decide)]; exact b6
        · rw [prn_at hl, hs1]
          show prn tx tn (tn - (i + 1)) (i + 1) _ = _
          rw [prn_at hl2, hs2]
      rcases hth2 with ⟨rfl, rfl⟩ | ⟨rfl, rfl⟩
      · simp only [e107_0, e107_1, e107_2, e107_4, e107_7, e107_8, e107_9, e107_11, e107_14, e107_16, e107_19, e107_20, e107_21, e107_23, e107_26, e107_27, e107_28, e107_30, e107_33, e107_34, e107_35, e107_36, e107_39, e107_40, e107_43, e107_45, e107_46, e107_47, e107_48, e107_49, e107_50, e107_51, e107_52, e107_55, e107_56, e107_59, e107_60, e107_61, e107_64, e107_65, e107_68, e107_69, e107_70, e107_73, e107_74, e107_75, e107_78, e107_79, e107_80, e107_83, e107_84, true_or, or_true, true_and, and_true, Option.toList, List.cons_append, List.nil_append, if_true, if_false, reduceIte, wI_get, upd_get, Nat.reduceEqDiff, reduceIte, if_true, if_false, m9_ne (n := tx (i + 1) - 48) (by omega), sk50, sr50_17, sk57, sn57, b2, b3, em, in_eq (j := P) (n := 6) hP (by decide), nI_clamp (n := P) (by omega), show ((1 : Int32) = 0) = False from eq_false (by decide), eth, nI_1]
        exact hfin _ rfl
      · simp only [e107_0, e107_1, e107_2, e107_4, e107_7, e107_8, e107_9, e107_11, e107_14, e107_16, e107_19, e107_20, e107_21, e107_23, e107_26, e107_27, e107_28, e107_30, e107_33, e107_34, e107_35, e107_36, e107_39, e107_40, e107_43, e107_45, e107_46, e107_47, e107_48, e107_49, e107_50, e107_51, e107_52, e107_55, e107_56, e107_59, e107_60, e107_61, e107_64, e107_65, e107_68, e107_69, e107_70, e107_73, e107_74, e107_75, e107_78, e107_79, e107_80, e107_83, e107_84, true_or, or_true, true_and, and_true, Option.toList, List.cons_append, List.nil_append, if_true, if_false, reduceIte, wI_get, upd_get, Nat.reduceEqDiff, reduceIte, if_true, if_false, m9_ne (n := tx (i + 1) - 48) (by omega), sk50, sr50_17, sk57, sn57, b2, b3, em, in_eq (j := P) (n := 6) hP (by decide), nI_clamp (n := P) (by omega), eth0, nI_1]
        exact hfin _ rfl
    · simp only [e107_0, e107_1, e107_2, e107_4, e107_7, e107_8, e107_9, e107_11, e107_14, e107_16, e107_19, e107_20, e107_21, e107_23, e107_26, e107_27, e107_28, e107_30, e107_33, e107_34, e107_35, e107_36, e107_39, e107_40, e107_43, e107_45, e107_46, e107_47, e107_48, e107_49, e107_50, e107_51, e107_52, e107_55, e107_56, e107_59, e107_60, e107_61, e107_64, e107_65, e107_68, e107_69, e107_70, e107_73, e107_74, e107_75, e107_78, e107_79, e107_80, e107_83, e107_84, true_or, or_true, true_and, and_true, Option.toList, List.cons_append, List.nil_append, if_true, if_false, reduceIte]
      refine hQ0 (i + 1) _ (by omega) (chP_50 (chP_rf σ) (by decide)) (by simp only [wI_get, upd_get, Nat.reduceEqDiff, reduceIte, if_true, if_false]) ?_
      rw [prn_at hl, hs1]
      show (prn tx tn (tn - (i + 1)) (i + 1) _).1 = _
      by_cases hl2 : i + 1 < tn
      · have hs2 : pst (4, (P, S, w, z, v, a), uN f P (10 * (tx i - 48)), th2, lw, an) (tx (i + 1)) = none := by simp [pst]; omega
        rw [prn_at hl2, hs2]
      · rw [prn_tn (by omega)]
        dsimp only
        rw [if_neg (by decide)]
        congr 1
        omega
  · simp only [e107_0, e107_1, e107_2, e107_4, e107_7, e107_8, e107_9, e107_11, e107_14, e107_16, e107_19, e107_20, e107_21, e107_23, e107_26, e107_27, e107_28, e107_30, e107_33, e107_34, e107_35, e107_36, e107_39, e107_40, e107_43, e107_45, e107_46, e107_47, e107_48, e107_49, e107_50, e107_51, e107_52, e107_55, e107_56, e107_59, e107_60, e107_61, e107_64, e107_65, e107_68, e107_69, e107_70, e107_73, e107_74, e107_75, e107_78, e107_79, e107_80, e107_83, e107_84, true_or, or_true, true_and, and_true, Option.toList, List.cons_append, List.nil_append, if_true, if_false, reduceIte]
    refine hQ0 i σ hi (chP_rf σ) v3 ?_
    by_cases hl : i < tn
    · have hs1 : pst (3, (P, S, w, z, v, a), f, th2, lw, an) (tx i) = none := by simp [pst]; omega
      rw [prn_at hl, hs1]
    · rw [prn_tn (by omega)]
      dsimp only
      rw [if_neg (by decide)]
      congr 1
      omega
