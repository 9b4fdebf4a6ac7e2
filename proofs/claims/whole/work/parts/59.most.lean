/-! MOST, MOSTAT, SOON -/
def ACM (g : Nat → Int32) (x : Int32) (a : Nat × List Nat) : Prop := a.1 ≤ 72 ∧ x = nI a.2.length ∧ ∀ j, j < a.2.length → g j = nI (a.2.getD j 0)
section Most
variable {t : gT} {f : Nat → Nat} {th sd T : Nat} {la tg : Int32}
set_option maxHeartbeats 8000000 in
theorem hupM {d : Nat} {σ : ab_St} {Q : Option Value → ab_St → Prop} (ht : tok t) : ∀ (n : Nat) (l : Int32) (ls : List Nat) (a : Nat × List Nat) (τ : ab_St) (l7 l8 : Option Value), Rc t f th sd la n l → NV t f sd τ n l ls → ls.length ≤ 8 → ACM (τ.1 68) (τ.1 50 34) a → FRM σ τ →
      (∀ (τ' : ab_St) (l8' : Option Value), NV t f sd τ' n l ls → ACM (τ'.1 68) (τ'.1 50 34) (upM t sd n l ls a) → FRM σ τ' → τ'.1 66 = τ.1 66 → τ'.1 67 = τ.1 67 → Ev (d + 3) 135 334 [some (.ref 50), some (.int (nI T)), some (.int (-9)), some (.int (nI (upM t sd n l ls a).1)), some (.int (nI (spt t sd n))), some (.int (nI (gnd t sd n))), some (.int (nI ls.length)), l7, l8'] [] τ' Q) →
      Ev (d + 3) 135 253 [some (.ref 50), some (.int (nI T)), some (.int (-9)), some (.int (nI a.1)), some (.int (nI (spt t sd n))), some (.int (nI (gnd t sd n))), some (.int (nI ls.length)), l7, l8] [] τ Q := by
  intro n l ls a τ l7 l8 hr hN hlen hA hF cont
  have hgp := gnd_le ht sd n
  obtain ⟨A1, A2, A3⟩ := hA
  unfold upM at cont
  by_cases hlt : a.1 < gnd t sd n
  · simp only [if_pos hlt] at cont
    have hle : (nI (gnd t sd n) ≤ nI a.1) = False := eq_false (nI_ge hlt (by omega))
    simp only [e135_253, e135_254, e135_256, e135_259, e135_260, e135_261, e135_264, e135_267, e135_268, e135_270, e135_273, e135_275, e135_276, e135_279, e135_281, e135_284, e135_285, e135_286, e135_289, e135_291, e135_292, e135_295, e135_297, e135_298, e135_299, e135_301, e135_304, e135_305, true_or, or_true, true_and, and_true, Option.toList, List.cons_append, List.nil_append, if_true, if_false, reduceIte, hle, sk50]
    generalize hτ1 : ab_wI τ 50 (upd (τ.1 50) 34 (nI ls.length)) = τ1
    have F1 : FRM σ τ1 := by
      rw [← hτ1]
      refine FRM_50 hF (fun k hk => ?_)
      simp only [List.mem_cons, List.not_mem_nil, or_false, not_or] at hk
      rw [upd_ne _ _ hk.2.2]
    have o1 : ∀ c, c ≠ 50 → τ1.1 c = τ.1 c := fun c q => by rw [← hτ1, wI_ne _ _ q]
    have t150 : τ1.1 50 = upd (τ.1 50) 34 (nI ls.length) := by rw [← hτ1, wI_eq]
    clear hτ1
    have hst : τ1 = ab_wI τ1 68 (cpN 0 (τ.1 66) (τ.1 68)) := by rw [cpN_0, ← o1 68 (by decide), wI_self]
    have l1 := ev_up (fun i => Ev (d + 3) 135 307 [some (.ref 50), some (.int (nI T)), some (.int (-9)), some (.int (nI (gnd t sd n))), some (.int (nI (spt t sd n))), some (.int (nI (gnd t sd n))), some (.int (nI ls.length)), l7, some (.int (nI i))] [] (ab_wI τ1 68 (cpN i (τ.1 66) (τ.1 68))) Q) ls.length (fun i hi => by
      rw [e135_307]
      have hge : (nI ls.length ≤ nI i) = False := eq_false (nI_ge hi (by omega))
      simp only [e135_309, e135_311, e135_314, e135_315, e135_318, e135_320, e135_321, e135_324, e135_326, e135_327, e135_328, e135_331, true_or, or_true, true_and, and_true, Option.toList, List.cons_append, List.nil_append, if_true, if_false, reduceIte, wI_get, upd_get, Nat.reduceEqDiff, reduceIte, if_true, if_false, sk50, sr50_31, sr50_33, sk66, sn66, sk68, sn68, hge, in_eq (j := i) (n := 8) (by omega) (by decide), in_eq (j := i) (n := 9) (by omega) (by decide), nI_clamp (n := i) (by omega), o1 66 (by decide), nI_1, wI_wI, cpN_s])
    rw [← hst] at l1
    rw [show (some (Value.int (0 : Int32))) = some (.int (nI 0)) from rfl, l1, e135_307]
    have hge : (nI ls.length ≤ nI ls.length) = True := eq_true (nI_le (Nat.le_refl _) (by omega))
    simp only [e135_309, e135_311, e135_314, e135_315, e135_318, e135_320, e135_321, e135_324, e135_326, e135_327, e135_328, e135_331, true_or, or_true, true_and, and_true, Option.toList, List.cons_append, List.nil_append, if_true, if_false, reduceIte, hge]
    refine cont _ _ ⟨?_, ?_, ?_, ?_⟩ ⟨hgp, ?_, fun j hj => ?_⟩ (FRM_w F1 (by decide)) ?_ ?_
    · rw [wI_ne _ _ (by decide), t150]; exact hN.1
    · rw [wI_ne _ _ (by decide), t150]; exact hN.2.1
    · rw [wI_ne _ _ (by decide), o1 65 (by decide)]; exact hN.2.2.1
    · rw [wI_ne _ _ (by decide), o1 66 (by decide)]; exact hN.2.2.2
    · rw [wI_ne _ _ (by decide), t150]; rfl
    · rw [wI_eq, cpN_lt hj]; exact hN.2.2.2 j hj
    · rw [wI_ne _ _ (by decide), o1 66 (by decide)]
    · rw [wI_ne _ _ (by decide), o1 67 (by decide)]
  · simp only [if_neg hlt] at cont
    have hle : (nI (gnd t sd n) ≤ nI a.1) = True := eq_true (nI_le (by omega) (by omega))
    simp only [e135_253, e135_254, e135_256, e135_259, e135_260, e135_261, e135_264, e135_267, e135_268, e135_270, e135_273, e135_275, e135_276, e135_279, e135_281, e135_284, e135_285, e135_286, e135_289, e135_291, e135_292, true_or, or_true, true_and, and_true, Option.toList, List.cons_append, List.nil_append, if_true, if_false, reduceIte, hle]
    exact cont τ l8 hN ⟨A1, A2, A3⟩ hF rfl rfl
set_option maxHeartbeats 8000000 in
theorem hupS {d s0 : Nat} {σ : ab_St} {Q : Option Value → ab_St → Prop} (ht : tok t) (hm : mdV σ t) (h7 : σ.1 50 7 = nI th) (hth : th < 2 ^ tP t) (hsd : sd < 2 ^ tS t) (hf : ∀ p, p < tP t → f p ≤ 90000) (hs0 : s0 < tS t) : ∀ (n : Nat) (l : Int32) (ls : List Nat) (a : Int32) (τ : ab_St) (l7 l8 : Option Value), Rc t f th sd la n l → NV t f sd τ n l ls → ls.length ≤ 8 → vaS a → FRM σ τ →
      (∀ (τ' : ab_St) (l8' : Option Value), NV t f sd τ' n l ls → vaS (upS t f th sd s0 n l ls a) → FRM σ τ' → τ'.1 66 = τ.1 66 → τ'.1 67 = τ.1 67 → Ev (d + 3) 135 334 [some (.ref 50), some (.int (nI T)), some (.int (nI s0)), some (.int (upS t f th sd s0 n l ls a)), some (.int (nI (spt t sd n))), some (.int (nI (gnd t sd n))), some (.int (nI ls.length)), l7, l8'] [] τ' Q) →
      Ev (d + 3) 135 253 [some (.ref 50), some (.int (nI T)), some (.int (nI s0)), some (.int a), some (.int (nI (spt t sd n))), some (.int (nI (gnd t sd n))), some (.int (nI ls.length)), l7, l8] [] τ Q := by
  intro n l ls a τ l7 l8 hr hN hlen hA hF cont
  have h8 := ht.2.1
  have h256 := two_le8 _ h8
  have hn := Rc_lt hsd hr
  have hsp := spt_le ht sd n
  have hmd := FRM_md hF hm
  have hml := NV_ml ht hN hF hm h7 hth hf
  have c122' := fun Q => c122 (d := d) (s := s0) (σ := τ) (Q := Q) ht hmd hml hN.1 hN.2.1 (by omega) hs0
  have hva := (upS_all (f := f) (th := th) (sd := sd) (s0 := s0) (n := n) (l := l) (ls := ls) ht hA).1
  have go := cont τ l8 hN hva hF rfl rfl
  unfold upS can at go
  cases e2 : alw t (fwd t f sd n) th n l s0
  · rw [e2, if_neg (fun z => absurd z.1 (by decide))] at go
    simp only [e135_253, e135_254, e135_256, e135_259, e135_260, e135_261, e135_264, e135_267, e135_268, e135_270, e135_273, e135_275, e135_276, e135_279, e135_281, e135_284, e135_285, e135_286, true_or, or_true, true_and, and_true, Option.toList, List.cons_append, List.nil_append, if_true, if_false, reduceIte, sk50, m9_ne (n := s0) (by omega), c122', e2, bI_0]
    exact go
  · rcases hA with e | ⟨x, hx, e⟩
    · subst e
      rw [e2, if_pos ⟨rfl, Or.inl rfl⟩] at go
      simp only [e135_253, e135_254, e135_256, e135_259, e135_260, e135_261, e135_264, e135_267, e135_268, e135_270, e135_273, e135_275, e135_276, e135_279, e135_281, e135_284, e135_285, e135_286, true_or, or_true, true_and, and_true, Option.toList, List.cons_append, List.nil_append, if_true, if_false, reduceIte, sk50, m9_ne (n := s0) (by omega), c122', e2, bI_0, Bool.true_eq_false]
      exact go
    · subst e
      by_cases hlt : spt t sd n < x
      · rw [e2, if_pos ⟨rfl, Or.inr (nI_lt hlt (by omega))⟩] at go
        have hge : (nI x ≤ nI (spt t sd n)) = False := eq_false (nI_ge hlt (by omega))
        simp only [e135_253, e135_254, e135_256, e135_259, e135_260, e135_261, e135_264, e135_267, e135_268, e135_270, e135_273, e135_275, e135_276, e135_279, e135_281, e135_284, e135_285, e135_286, true_or, or_true, true_and, and_true, Option.toList, List.cons_append, List.nil_append, if_true, if_false, reduceIte, sk50, m9_ne (n := s0) (by omega), c122', e2, bI_0, Bool.true_eq_false, m9_ne (n := x) (by omega), hge]
        exact go
      · rw [if_neg (fun z => by
          rcases z.2 with z2 | z2
          · exact absurd z2 (nI_m9 (by omega))
          · rw [nI_ltI (by omega) (by omega)] at z2; exact hlt z2)] at go
        have hge : (nI x ≤ nI (spt t sd n)) = True := eq_true (nI_le (by omega) (by omega))
        simp only [e135_253, e135_254, e135_256, e135_259, e135_260, e135_261, e135_264, e135_267, e135_268, e135_270, e135_273, e135_275, e135_276, e135_279, e135_281, e135_284, e135_285, e135_286, true_or, or_true, true_and, and_true, Option.toList, List.cons_append, List.nil_append, if_true, if_false, reduceIte, sk50, m9_ne (n := s0) (by omega), c122', e2, bI_0, Bool.true_eq_false, m9_ne (n := x) (by omega), hge]
        exact go
set_option maxHeartbeats 8000000 in
/-- goOrders, from its row on -/
theorem c135b {A : Type} {fd : A → Int32} {AC : (Nat → Int32) → Int32 → A → Prop} {up : Nat → Int32 → List Nat → A → A} {a0 : A} {d : Nat} {σ : ab_St} {Q : Option Value → ab_St → Prop}
    (ht : tok t) (hm : mdV σ t) (h7 : σ.1 50 7 = nI th) (hth : th < 2 ^ tP t) (hsd : sd < 2 ^ tS t) (hf : ∀ p, p < tP t → f p ≤ 90000) (hT : T ≤ 100000) (v29 : σ.1 50 29 = nI sd) (v30 : σ.1 50 30 = la) (v65 : ∀ p, p < tP t → σ.1 65 p = nI (f p)) (hA0 : AC (σ.1 68) (σ.1 50 34) a0)
    (hup : ∀ (n : Nat) (l : Int32) (ls : List Nat) (a : A) (τ : ab_St) (l7 l8 : Option Value), Rc t f th sd la n l → NV t f sd τ n l ls → ls.length ≤ 8 → AC (τ.1 68) (τ.1 50 34) a → FRM σ τ →
      (∀ (τ' : ab_St) (l8' : Option Value), NV t f sd τ' n l ls → AC (τ'.1 68) (τ'.1 50 34) (up n l ls a) → FRM σ τ' → τ'.1 66 = τ.1 66 → τ'.1 67 = τ.1 67 → Ev (d + 3) 135 334 [some (.ref 50), some (.int (nI T)), some (.int tg), some (.int (fd (up n l ls a))), some (.int (nI (spt t sd n))), some (.int (nI (gnd t sd n))), some (.int (nI ls.length)), l7, l8'] [] τ' Q) →
      Ev (d + 3) 135 253 [some (.ref 50), some (.int (nI T)), some (.int tg), some (.int (fd a)), some (.int (nI (spt t sd n))), some (.int (nI (gnd t sd n))), some (.int (nI ls.length)), l7, l8] [] τ Q)
    (hQ : ∀ τ, FRM σ τ → AC (τ.1 68) (τ.1 50 34) (dfs t f th sd T tg up (un t sd + 1) sd la [] a0) → Q (some (.int (fd (dfs t f th sd T tg up (un t sd + 1) sd la [] a0)))) τ) :
    Ev (d + 3) 135 47 [some (.ref 50), some (.int (nI T)), some (.int tg), some (.int (fd a0)), some (.int 0), some (.int 0), some (.int 0), none, none] [] σ Q := by
  have i0 : ab_in 0 9 = True := in_eq (j := 0) (n := 9) (by decide) (by decide)
  have p0 : ((0 : Int32) < 0) = False := eq_false (by decide)
  simp only [e135_47, e135_48, e135_51, e135_52, e135_54, e135_55, e135_57, e135_60, e135_61, e135_64, e135_66, e135_67, e135_69, e135_72, e135_73, e135_76, e135_77, e135_80, e135_82, e135_83, e135_84, e135_85, true_or, or_true, true_and, and_true, Option.toList, List.cons_append, List.nil_append, if_true, if_false, reduceIte, wI_get, upd_get, Nat.reduceEqDiff, reduceIte, if_true, if_false, sk50, sr50_31, sk66, sn66, i0, z_clamp, p0]
  have hun : un t sd ≤ 8 := Nat.le_trans (unm_le _ _) ht.2.1
  have H := dfs_c (tg := tg) (fd := fd) (AC := AC) (up := up) (d := d) (σ := σ) (Q := Q) ht hm h7 hth hsd hf hT hup (un t sd + 1) sd la [] a0 (ab_wI σ 66 (upd (σ.1 66) 0 (-9))) none (by omega) (by show 0 + un t sd ≤ 8; omega) Rc_0 ⟨by rw [wI_ne _ _ (by decide)]; exact v29, by rw [wI_ne _ _ (by decide)]; exact v30, fun p hp => by rw [wI_ne _ _ (by decide), fwd_self]; exact v65 p hp, fun j hj => by have : j < 0 := hj; omega⟩ (by rw [wI_ne _ _ (by decide), wI_ne _ _ (by decide)]; exact hA0) (FRM_w (FRM_rf σ) (by decide)) (fun τ' l7 l8 hN hA hF _ => by
    have m1 : (nI ([] : List Nat).length + (-1) < 0) = True := eq_true (by decide)
    simp only [e135_140, e135_143, e135_145, e135_334, e135_55, e135_57, e135_337, e135_338, true_or, or_true, true_and, and_true, Option.toList, List.cons_append, List.nil_append, if_true, if_false, reduceIte, m1]
    exact hQ τ' hF hA)
  rw [spt_self, gnd_self] at H
  exact H
theorem FRM_chM {σ τ : ab_St} (h : FRM σ τ) : chM σ τ := by
  have hm : ∀ c ∈ [50, 65, 66, 67, 68], c ∈ mS := by decide
  exact ⟨fun c hc => h.1 c (fun z => hc (hm c z)), fun k hk => h.2 k (by revert k; decide)⟩
theorem TP_dfs (h8 : tS t ≤ 8) : TP t f th sd la T (dfs t f th sd T (-9) (upM t sd) (un t sd + 1) sd la [] (0, [])).1 ∧ (∃ r, (dfs t f th sd T (-9) (upM t sd) (un t sd + 1) sd la [] (0, [])).2 = r ∧ GR t f th sd T (dfs t f th sd T (-9) (upM t sd) (un t sd + 1) sd la [] (0, [])).1 r sd la ∧ r.length ≤ 8) := by
  obtain ⟨m1, m2, m3, m4⟩ := dfs_M (t := t) (f := f) (th := th) (sd := sd) (T := T) (tg := -9) (un t sd + 1) sd la [] (0, [])
  generalize dfs t f th sd T (-9) (upM t sd) (un t sd + 1) sd la [] (0, []) = a at m1 m2 m3 m4
  refine ⟨⟨fun n l hr hs => ?_, ?_⟩, ?_⟩
  · rcases (AllD_Rc (by omega) m2 hr hs (fun s hs2 e => absurd e (nI_m9 (by omega)))).1 with ⟨e, -⟩ | e
    · rw [e, gnd_self]; omega
    · exact e
  · by_cases e : a.1 = 0
    · exact ⟨sd, la, Rc_0, by rw [spt_self]; omega, by rw [gnd_self, e]⟩
    · exact Gd_Rc Rc_0 (fpt_Gd _ _ _ _ _ Rc_0 (m4 (by show 0 < _; omega)))
  · by_cases e : a.1 = 0
    · rw [m3 e]
      exact ⟨[], rfl, Or.inl (by rw [gnd_self]), by decide⟩
    · obtain ⟨r, r1, r2, r3⟩ := fpt_GR (fun s hs => nI_m9 (by omega)) _ _ _ _ _ Rc_0 (by omega) (by rw [gnd_self]; omega) (m4 (by show 0 < _; omega))
      have := unm_le sd (tS t)
      exact ⟨r, r1, r2, by unfold un at r3; omega⟩
end Most
theorem in72 (x : Int32) : decide ((0 : Int64) ≤ x.toInt64 ∧ x.toInt64 ≤ 72) = inR x 73 := inL (x := x) (n := 73) (by decide)
theorem ti72 : (72 : Int32).toInt = 72 := rfl
set_option maxHeartbeats 8000000 in
/-- goOrders without a target -/
theorem c135M {d T : Nat} {t : gT} {f : Nat → Nat} {th sd : Nat} {la : Int32} {σ : ab_St} {Q : Option Value → ab_St → Prop} (ht : tok t) (hm : mdV σ t) (v52 : ∀ p, p < tP t → σ.1 52 p = nI (f p)) (h7 : σ.1 50 7 = nI th) (hth : th < 2 ^ tP t) (v13 : σ.1 50 13 = nI sd) (hsd : sd < 2 ^ tS t) (v14 : σ.1 50 14 = la) (hf : ∀ p, p < tP t → f p ≤ 90000) (hT : T ≤ 100000)
    (hQ : ∀ τ, chM σ τ → ACM (τ.1 68) (τ.1 50 34) (dfs t f th sd T (-9) (upM t sd) (un t sd + 1) sd la [] (0, [])) → Q (some (.int (nI (dfs t f th sd T (-9) (upM t sd) (un t sd + 1) sd la [] (0, [])).1))) τ) :
    Ev (d + 3) 135 0 [some (.ref 50), some (.int (nI T)), some (.int (-9)), none, none, none, none, none, none] [] σ Q := by
  have hσ1 : chM σ (ab_wI σ 50 (upd (σ.1 50) 34 0)) := chM_50 (chM_rf σ) (fun k hk => by
    simp only [List.mem_cons, List.not_mem_nil, or_false] at hk
    rw [upd_ne _ _ (by omega)])
  simp only [e135_0, e135_1, e135_3, e135_6, e135_7, e135_10, e135_12, e135_13, e135_14, e135_16, e135_17, e135_19, e135_20, e135_22, e135_23, e135_24, e135_27, e135_28, true_or, or_true, true_and, and_true, Option.toList, List.cons_append, List.nil_append, if_true, if_false, reduceIte, sk50]
  generalize hg1 : ab_wI σ 50 (upd (σ.1 50) 34 0) = σ1 at hσ1
  have e34 : σ1.1 50 34 = 0 := by rw [← hg1, wI_eq]; rfl
  clear hg1
  have hm1 : mdV σ1 t := mdV_ag hm (fun c hc => hσ1.1 c (by revert c; decide)) (fun k hk => hσ1.2 k (by revert k; decide))
  simp only [c112 (d := d + 2) hm1.1 ht.1, e135_31, e135_32, e135_34, true_or, or_true, true_and, and_true, Option.toList, List.cons_append, List.nil_append, if_true, if_false, reduceIte]
  have hb : chM σ (bgn σ1 (tP t)) := chM_tr hσ1 (bgn_chM σ1 (tP t))
  refine c135b (tg := -9) (fd := fun a => nI a.1) (AC := ACM) (up := upM t sd) (a0 := (0, [])) (f := f) (la := la) ht (mdV_ag hm (fun c hc => hb.1 c (by revert c; decide)) (fun k hk => hb.2 k (by revert k; decide))) (by rw [hb.2 7 (by decide)]; exact h7) hth hsd hf hT (by rw [bgn_29, hσ1.2 13 (by decide)]; exact v13) (by rw [bgn_30, hσ1.2 14 (by decide)]; exact v14) (fun p hp => by rw [bgn_w hp, hσ1.1 52 (by decide)]; exact v52 p hp) ⟨by decide, ?_, fun j hj => by have : j < 0 := hj; omega⟩ (hupM ht) (fun τ hF hA => hQ τ (chM_tr hb (FRM_chM hF)) hA)
  rw [bgn_get, if_pos rfl]
  simp only [wI_get, upd_get, Nat.reduceEqDiff, reduceIte, if_true, if_false]
  exact e34
set_option maxHeartbeats 8000000 in
theorem op_most {B : Nat} {σ : ab_St} {x : Int32} (hB : B < 90000) (hI : Inv B σ) : op2 B σ 61 [some (.ref 0), some (.int x)] 134 [some (.ref 50), some (.int x)] := by
  obtain ⟨tn, tx, t, f, th, sd, la, lw, h, -⟩ := id hI
  obtain ⟨h1, h2, h3, h4, h5, h6, h7⟩ := id h
  obtain ⟨n0, n1, n2, n3, n4, n5, n6, n7, n8⟩ := h6
  have s0 : sam σ (ab_wI σ 50 (upd (σ.1 50) 0 0)) := sam_50 (by decide)
  have hf : ∀ p, p < tP t → f p ≤ 90000 := fun p hp => by have := h5.2.2.2.2 p hp; omega
  by_cases hx : inR x 73 = true
  · obtain ⟨T, hT, rfl⟩ := inR_of hx (by decide)
    have e1 : (nI T < 0) = False := eq_false (nI_pos (by omega))
    have e2 : (nI T ≤ (72 : Int32)) = True := eq_true (nI_le (a := T) (b := 72) (by omega) (by decide))
    have htp := TP_dfs (t := t) (f := f) (th := th) (sd := sd) (la := la) (T := T) h1.2.1
    refine op2_q (.int (nI (dfs t f th sd T (-9) (upM t sd) (un t sd + 1) sd la [] (0, [])).1)) hI ?_
    simp only [e61_0, e61_1, e61_4, e61_5, e61_7, e61_10, e61_12, e61_13, e61_14, e61_17, e61_18, e61_21, e61_22, e61_25, e61_26, e62_0, e62_1, e62_2, e62_3, true_or, or_true, true_and, and_true, Option.toList, List.cons_append, List.nil_append, if_true, if_false, reduceIte, e1, e2, sk0, sk31, sr0_7, sr0_2, sr0_3]
    refine c63 (d := 2) h1 h3 (fun p hp => (n0 p hp).1) n1 h5.1 n3 h5.2.1 n5 h5.2.2.1 hf (fun τ cτ sτ => ?_)
    have hag : ∀ c, c ∉ [33, 34, 35, 36, 37, 38] → τ.1 c = σ.1 c := cτ.1
    simp only [e62_6, e62_7, e62_8, e62_9, e62_10, true_or, or_true, true_and, and_true, Option.toList, List.cons_append, List.nil_append, if_true, if_false, reduceIte, sk31]
    refine c69 h1 (tdV_ag h3 (fun c hc => hag c (by revert c; decide))) (by rw [hag 16 (by decide)]; exact n3) h5.2.1 (by omega) sτ (fun r hr hTP => ?_)
    have er := TP_uq hTP htp.1
    simp only [e62_13, e61_29, true_or, or_true, true_and, and_true, Option.toList, List.cons_append, List.nil_append, if_true, if_false, reduceIte, er]
    have sτ2 : sam σ τ := sam_ch cτ (by decide)
    refine ⟨sτ2, ?_⟩
    simp only [e134_0, e134_1, e134_2, e134_5, e134_6, e134_7, e134_8, e134_11, e134_14, e134_17, e134_18, e134_19, e134_21, true_or, or_true, true_and, and_true, Option.toList, List.cons_append, List.nil_append, if_true, if_false, reduceIte, sk50, c101, in72, hx, bI_0, Bool.true_eq_false]
    have sm2 : sam σ (ab_wI τ 50 (upd (τ.1 50) 0 0)) := sam_tr sτ2 (sam_50 (by decide))
    have g := bas_sam (Nat.le_refl B) sm2 h
    refine c135M (d := 4) h1 g.2.2.2.1 (fun p hp => (g.2.2.2.2.2.1.1 p hp).2) g.2.2.2.2.2.1.2.2.1 h5.1 g.2.2.2.2.2.1.2.2.2.2.1 h5.2.1 g.2.2.2.2.2.1.2.2.2.2.2.2.1 hf (by omega) (fun υ cυ _ => ?_)
    simp only [e134_24, e134_27, e134_29, true_or, or_true, true_and, and_true, Option.toList, List.cons_append, List.nil_append, if_true, if_false, reduceIte]
    exact sam_tr (sam_50 (by decide)) (chM_sam cυ)
  · have hx : inR x 73 = false := by simpa using hx
    refine op2_q (.int (-2)) hI ?_
    have hx2 : x.toInt < 0 ∨ 73 ≤ x.toInt := by
      unfold inR at hx
      have := of_decide_eq_false hx
      omega
    have key : Ev 8 134 0 [some (.ref 50), some (.int x)] [] σ (fun r σ2 => r = some (.int (-2)) ∧ sam σ σ2) := by
      simp only [e134_0, e134_1, e134_2, e134_5, e134_6, e134_7, e134_8, e134_11, e134_14, e134_17, e134_18, e134_19, e134_21, e134_24, e134_27, e134_29, true_or, or_true, true_and, and_true, Option.toList, List.cons_append, List.nil_append, if_true, if_false, reduceIte, sk50, c101, in72, hx, bI_0]
      exact s0
    simp only [e61_0, e61_1, e61_4, e61_5, e61_7, e61_10, e61_12, e61_13, e61_14, e61_17, e61_18, e61_21, e61_22, e61_25, e61_26, e61_29, true_or, or_true, true_and, and_true, Option.toList, List.cons_append, List.nil_append, if_true, if_false, reduceIte, lt0_iff, le_lit, ti72]
    by_cases z : x.toInt < 0
    · rw [if_pos z]; exact ⟨sam_rf σ, key⟩
    · rw [if_neg z, if_neg (by omega)]; exact ⟨sam_rf σ, key⟩
theorem rs_at : ∀ (r : List Nat) (p j : Nat), p + r.length < 100 → j < r.length → rs r p (nI (p + j)) = nI (r.getD j 0) := by
  intro r
  induction r with
  | nil => intro p j _ h; exact absurd h (by simp)
  | cons s r ih =>
    intro p j hp hj
    have hl : (s :: r).length = r.length + 1 := rfl
    unfold rs
    cases j with
    | zero => rw [if_pos (show nI p = nI (p + 0) from rfl)]; rfl
    | succ j =>
      rw [if_neg (fun e => by have := nI_inj (by omega) (by omega) e; omega), show p + (j + 1) = p + 1 + j by omega, ih (p + 1) j (by omega) (by omega)]
      rfl
theorem rs_no {x : Int32} : ∀ (r : List Nat) (p : Nat), p + r.length < 100 → (∀ j, j < r.length → nI (p + j) ≠ x) → rs r p x = -9 := by
  intro r
  induction r with
  | nil => intro p _ _; rfl
  | cons s r ih =>
    intro p hp h
    have hl : (s :: r).length = r.length + 1 := rfl
    unfold rs
    rw [if_neg (show ¬ nI p = x from h 0 (by omega)), ih (p + 1) (by omega) (fun j hj => by rw [show p + 1 + j = p + (j + 1) by omega]; exact h (j + 1) (by omega))]
set_option maxHeartbeats 8000000 in
theorem op_mostAt {B : Nat} {σ : ab_St} {x y : Int32} (hB : B < 90000) (hI : Inv B σ) : op2 B σ 70 [some (.ref 0), some (.int x), some (.int y)] 137 [some (.ref 50), some (.int x), some (.int y)] := by
  obtain ⟨tn, tx, t, f, th, sd, la, lw, h, -⟩ := id hI
  obtain ⟨h1, h2, h3, h4, h5, h6, h7⟩ := id h
  obtain ⟨n0, n1, n2, n3, n4, n5, n6, n7, n8⟩ := h6
  have s0 : sam σ (ab_wI σ 50 (upd (σ.1 50) 0 0)) := sam_50 (by decide)
  have hf : ∀ p, p < tP t → f p ≤ 90000 := fun p hp => by have := h5.2.2.2.2 p hp; omega
  by_cases hx : inR x 73 = true
  · obtain ⟨T, hT, rfl⟩ := inR_of hx (by decide)
    have e1 : (nI T < 0) = False := eq_false (nI_pos (by omega))
    have e2 : (nI T ≤ (72 : Int32)) = True := eq_true (nI_le (a := T) (b := 72) (by omega) (by decide))
    obtain ⟨htp, bl, hbl, hGR, hlen⟩ := TP_dfs (t := t) (f := f) (th := th) (sd := sd) (la := la) (T := T) h1.2.1
    refine op2_q (.int (rs bl 0 y)) hI ?_
    simp only [e70_0, e70_1, e70_4, e70_5, e70_7, e70_10, e70_12, e70_13, e70_14, e70_17, e70_18, e70_21, e70_22, e70_25, e70_26, e70_27, e71_0, e71_1, e71_2, e71_3, true_or, or_true, true_and, and_true, Option.toList, List.cons_append, List.nil_append, if_true, if_false, reduceIte, e1, e2, sk0, sk31, sr0_7, sr0_2, sr0_3]
    refine c63 (d := 2) h1 h3 (fun p hp => (n0 p hp).1) n1 h5.1 n3 h5.2.1 n5 h5.2.2.1 hf (fun τ cτ sτ => ?_)
    have hag : ∀ c, c ∉ [33, 34, 35, 36, 37, 38] → τ.1 c = σ.1 c := cτ.1
    have htd : tdV τ 11 t := tdV_ag h3 (fun c hc => hag c (by revert c; decide))
    simp only [e71_6, e71_7, e71_8, e71_9, e71_10, true_or, or_true, true_and, and_true, Option.toList, List.cons_append, List.nil_append, if_true, if_false, reduceIte, sk31]
    refine c69 h1 htd (by rw [hag 16 (by decide)]; exact n3) h5.2.1 (by omega) sτ (fun r hr hTP => ?_)
    have er := TP_uq hTP htp
    rw [← er] at hGR
    simp only [e71_13, e71_15, e71_16, e71_17, e71_18, e71_19, e71_21, true_or, or_true, true_and, and_true, Option.toList, List.cons_append, List.nil_append, if_true, if_false, reduceIte, sk31]
    refine c72 h1 htd (by rw [hag 16 (by decide)]; exact n3) h5.2.1 h5.2.2.1 (by omega) hr sτ (fun υ cυ gυ => ?_)
    have hag2 : ∀ c, c ∉ [33, 34, 35, 36, 37, 38, 39] → υ.1 c = σ.1 c := (ch_tr (ch_sub cτ (by decide)) (ch_sub cυ (L' := [33, 34, 35, 36, 37, 38, 39]) (by decide))).1
    simp only [e71_24, e71_25, e71_28, e71_30, e71_31, e71_34, e71_36, e71_37, true_or, or_true, true_and, and_true, Option.toList, List.cons_append, List.nil_append, if_true, if_false, reduceIte, sk16, hag2 16 (by decide), n3, n5]
    refine c71b (la := la) h1 (tdV_ag h3 (fun c hc => hag2 c (by revert c; decide))) h5.2.1 h5.2.2.1 hr (SPD_e sτ (fun c hc => cυ.1 c (by revert c; decide))) gυ bl sd 0 la none Rc_0 hGR (by omega) ?_
    simp only [e70_30, true_or, or_true, true_and, and_true, Option.toList, List.cons_append, List.nil_append, if_true, if_false, reduceIte]
    have sτ2 : sam σ υ := sam_ch (L := [33, 34, 35, 36, 37, 38, 39]) (ch_tr (ch_sub cτ (by decide)) (ch_sub cυ (by decide))) (by decide)
    refine ⟨sτ2, ?_⟩
    simp only [e137_0, e137_1, e137_2, e137_5, e137_6, e137_7, e137_8, e137_11, e137_14, e137_17, e137_19, e137_20, e137_21, e137_22, e137_24, true_or, or_true, true_and, and_true, Option.toList, List.cons_append, List.nil_append, if_true, if_false, reduceIte, sk50, c101, in72, hx, bI_0, Bool.true_eq_false]
    have sm2 : sam σ (ab_wI υ 50 (upd (υ.1 50) 0 0)) := sam_tr sτ2 (sam_50 (by decide))
    have g := bas_sam (Nat.le_refl B) sm2 h
    refine c135M (d := 4) h1 g.2.2.2.1 (fun p hp => (g.2.2.2.2.2.1.1 p hp).2) g.2.2.2.2.2.1.2.2.1 h5.1 g.2.2.2.2.2.1.2.2.2.2.1 h5.2.1 g.2.2.2.2.2.1.2.2.2.2.2.2.1 hf (by omega) (fun ω cω aω => ?_)
    obtain ⟨-, a2, a3⟩ := aω
    rw [hbl] at a2 a3
    have sω : sam υ ω := sam_tr (sam_50 (by decide)) (chM_sam cω)
    by_cases hy : inR y bl.length = true
    · obtain ⟨j, hj, rfl⟩ := inR_of hy (by omega)
      have er2 := rs_at bl 0 j (by omega) hj
      rw [Nat.zero_add] at er2
      simp only [e137_27, e137_28, e137_29, e137_30, e137_31, e137_32, e137_35, e137_36, e137_37, e137_38, e137_41, e137_44, e137_45, e137_48, e137_49, e137_50, e137_53, e137_55, true_or, or_true, true_and, and_true, Option.toList, List.cons_append, List.nil_append, if_true, if_false, reduceIte, sk50, a2, c101, inL (x := nI j) (n := bl.length) (by omega), hy, bI_0, Bool.true_eq_false, sr50_33, sk68, sn68, in_eq (j := j) (n := 8) (by omega) (by decide), nI_clamp (n := j) (by omega), a3 j hj, er2]
      exact sω
    · have hy : inR y bl.length = false := by simpa using hy
      have er2 := rs_no (x := y) bl 0 (by omega) (fun j hj e => by
        rw [Nat.zero_add] at e
        rw [← e, inR_nI (by omega)] at hy
        exact absurd hj (of_decide_eq_false hy))
      simp only [e137_27, e137_28, e137_29, e137_30, e137_31, e137_32, e137_35, e137_36, e137_37, e137_38, e137_41, e137_44, e137_45, e137_48, e137_49, e137_50, e137_53, e137_55, true_or, or_true, true_and, and_true, Option.toList, List.cons_append, List.nil_append, if_true, if_false, reduceIte, sk50, a2, c101, inL (x := y) (n := bl.length) (by omega), hy, bI_0, er2]
      exact sω
  · have hx : inR x 73 = false := by simpa using hx
    refine op2_q (.int (-2)) hI ?_
    have hx2 : x.toInt < 0 ∨ 73 ≤ x.toInt := by
      unfold inR at hx
      have := of_decide_eq_false hx
      omega
    have key : Ev 8 137 0 [some (.ref 50), some (.int x), some (.int y)] [] σ (fun r σ2 => r = some (.int (-2)) ∧ sam σ σ2) := by
      simp only [e137_0, e137_1, e137_2, e137_5, e137_6, e137_7, e137_8, e137_11, e137_14, e137_17, e137_19, e137_20, e137_21, e137_22, e137_24, e137_27, e137_28, e137_29, e137_30, e137_31, e137_32, e137_35, e137_36, e137_37, e137_38, e137_41, e137_44, e137_45, e137_48, e137_49, e137_50, e137_53, e137_55, true_or, or_true, true_and, and_true, Option.toList, List.cons_append, List.nil_append, if_true, if_false, reduceIte, sk50, c101, in72, hx, bI_0]
      exact s0
    simp only [e70_0, e70_1, e70_4, e70_5, e70_7, e70_10, e70_12, e70_13, e70_14, e70_17, e70_18, e70_21, e70_22, e70_25, e70_26, e70_27, e70_30, true_or, or_true, true_and, and_true, Option.toList, List.cons_append, List.nil_append, if_true, if_false, reduceIte, lt0_iff, le_lit, ti72]
    by_cases z : x.toInt < 0
    · rw [if_pos z]; exact ⟨sam_rf σ, key⟩
    · rw [if_neg z, if_neg (by omega)]; exact ⟨sam_rf σ, key⟩
set_option maxHeartbeats 8000000 in
/-- goOrders with a target -/
theorem c135S {d s0 : Nat} {t : gT} {f : Nat → Nat} {th sd : Nat} {la : Int32} {σ : ab_St} {Q : Option Value → ab_St → Prop} (ht : tok t) (hm : mdV σ t) (v52 : ∀ p, p < tP t → σ.1 52 p = nI (f p)) (h7 : σ.1 50 7 = nI th) (hth : th < 2 ^ tP t) (v13 : σ.1 50 13 = nI sd) (hsd : sd < 2 ^ tS t) (v14 : σ.1 50 14 = la) (hf : ∀ p, p < tP t → f p ≤ 90000) (hs0 : s0 < tS t)
    (hQ : ∀ τ x, chM σ τ → FW t f th sd la s0 (2 ^ tS t) x → Q (some (.int x)) τ) :
    Ev (d + 3) 135 0 [some (.ref 50), some (.int 99999), some (.int (nI s0)), none, none, none, none, none, none] [] σ Q := by
  have h8 := ht.2.1
  have h256 := two_le8 _ h8
  have e9 := m9_ne (n := s0) (by omega)
  have hσ1 : chM σ (ab_wI σ 50 (upd (σ.1 50) 34 0)) := chM_50 (chM_rf σ) (fun k hk => by
    simp only [List.mem_cons, List.not_mem_nil, or_false] at hk
    rw [upd_ne _ _ (by omega)])
  simp only [e135_0, e135_1, e135_3, e135_6, e135_7, e135_10, e135_12, e135_13, e135_14, e135_16, e135_17, e135_19, e135_20, e135_22, e135_23, e135_24, e135_27, e135_28, true_or, or_true, true_and, and_true, Option.toList, List.cons_append, List.nil_append, if_true, if_false, reduceIte, sk50, e9]
  generalize hg1 : ab_wI σ 50 (upd (σ.1 50) 34 0) = σ1 at hσ1
  clear hg1
  have hm1 : mdV σ1 t := mdV_ag hm (fun c hc => hσ1.1 c (by revert c; decide)) (fun k hk => hσ1.2 k (by revert k; decide))
  have hb : chM σ (bgn σ1 (tP t)) := chM_tr hσ1 (bgn_chM σ1 (tP t))
  have hmb : mdV (bgn σ1 (tP t)) t := mdV_ag hm (fun c hc => hb.1 c (by revert c; decide)) (fun k hk => hb.2 k (by revert k; decide))
  have b7 : (bgn σ1 (tP t)).1 50 7 = nI th := by rw [hb.2 7 (by decide)]; exact h7
  have b29 : (bgn σ1 (tP t)).1 50 29 = nI sd := by rw [bgn_29, hσ1.2 13 (by decide)]; exact v13
  have b30 : (bgn σ1 (tP t)).1 50 30 = la := by rw [bgn_30, hσ1.2 14 (by decide)]; exact v14
  have b65 : ∀ p, p < tP t → (bgn σ1 (tP t)).1 65 p = nI (f p) := fun p hp => by rw [bgn_w hp, hσ1.1 52 (by decide)]; exact v52 p hp
  have hml : mlV (bgn σ1 (tP t)) (tP t) f th := ⟨hmb.1, fun p hp => b65 p (bit_lt hth hp), b7, hth, ht.1, fun p hp => by have := hf p (bit_lt hth hp); omega⟩
  have c122' := fun Q => c122 (d := d) (s := s0) (σ := bgn σ1 (tP t)) (Q := Q) ht hmb hml b29 b30 (by omega) hs0
  have ecan : can t f th sd sd la s0 = alw t f th sd la s0 := by unfold can; rw [fwd_self]
  cases e2 : alw t f th sd la s0
  · simp only [c112 (d := d + 2) hm1.1 ht.1, e135_31, e135_32, e135_34, e135_37, e135_38, e135_39, e135_42, true_or, or_true, true_and, and_true, Option.toList, List.cons_append, List.nil_append, if_true, if_false, reduceIte, sk50, e9, c122', e2, bI_0]
    obtain ⟨q1, q2, q3, q4⟩ := dfs_S (T := 99999) (tg := nI s0) (s0 := s0) (th := th) (f := f) ht (un t sd + 1) sd la [] (-9) Rc_0 (Or.inl rfl)
    refine c135b (T := 99999) (tg := nI s0) (fd := fun a => a) (AC := fun _ _ a => vaS a) (up := upS t f th sd s0) (a0 := (-9 : Int32)) (f := f) (la := la) ht hmb b7 hth hsd hf (by decide) b29 b30 b65 (Or.inl rfl) (hupS ht hmb b7 hth hsd hf hs0) (fun τ hF hA => hQ τ _ (chM_tr hb (FRM_chM hF)) ?_)
    generalize dfs t f th sd 99999 (nI s0) (upS t f th sd s0) (un t sd + 1) sd la [] (-9) = a at q1 q2 q3 q4
    have cov : ∀ n l, Rc t f th sd la n l → can t f th sd n l s0 = true → ∃ y, y ≤ spt t sd n ∧ a = nI y := by
      intro n l hr hc
      have hsp := spt_le ht sd n
      rcases (AllD_Rc (by omega) q4 hr (by omega) (fun s hs e => by rw [nI_inj (by omega) (by omega) e]; exact can_n hc)).1 with ⟨e, e'⟩ | hh
      · subst e; subst e'
        rw [ecan, e2] at hc
        exact absurd hc (by decide)
      · exact hh hc
    rcases q3 with e | ⟨n, l, r1, r2, r3⟩
    · refine Or.inl ⟨e, fun n l _ hr => ?_⟩
      cases hc : can t f th sd n l s0
      · rfl
      · obtain ⟨y, y1, y2⟩ := cov n l hr hc
        have := spt_le ht sd n
        rw [e] at y2
        exact absurd y2.symm (nI_m9 (by omega))
    · refine Or.inr ⟨n, l, r1, r2, r3, fun n' l' _ hr hc => ?_⟩
      obtain ⟨y, y1, y2⟩ := cov n' l' hr hc
      have := spt_le ht sd n
      have := spt_le ht sd n'
      rw [r3] at y2
      have := nI_inj (by omega) (by omega) y2
      omega
  · simp only [c112 (d := d + 2) hm1.1 ht.1, e135_31, e135_32, e135_34, e135_37, e135_38, e135_39, e135_42, e135_45, e135_46, true_or, or_true, true_and, and_true, Option.toList, List.cons_append, List.nil_append, if_true, if_false, reduceIte, sk50, e9, c122', e2, bI_0, Bool.true_eq_false]
    refine hQ _ 0 hb (Or.inr ⟨sd, la, Rc_0, by rw [ecan, e2], by rw [spt_self]; rfl, fun n' l' _ _ _ => by rw [spt_self]; omega⟩)
theorem FW_uq {t : gT} {f : Nat → Nat} {th sd : Nat} {la : Int32} {s : Nat} {x y : Int32} (ht : tok t) (hsd : sd < 2 ^ tS t) (h : FW t f th sd la s (2 ^ tS t) x) (h' : FW t f th sd la s (2 ^ tS t) y) : x = y := by
  rcases h with ⟨a1, a2⟩ | ⟨n, l, a1, a2, a3, a4⟩ <;> rcases h' with ⟨b1, b2⟩ | ⟨n', l', b1, b2, b3, b4⟩
  · rw [a1, b1]
  · rw [a2 n' l' (Rc_lt hsd b1) b1] at b2; exact absurd b2 (by decide)
  · rw [b2 n l (Rc_lt hsd a1) a1] at a2; exact absurd a2 (by decide)
  · have := a4 n' l' (Rc_lt hsd b1) b1 b2
    have := b4 n l (Rc_lt hsd a1) a1 a2
    rw [a3, b3, show spt t sd n = spt t sd n' by omega]
set_option maxHeartbeats 8000000 in
theorem op_soon {B : Nat} {σ : ab_St} {x : Int32} (hB : B < 90000) (hI : Inv B σ) : op2 B σ 75 [some (.ref 0), some (.int x)] 138 [some (.ref 50), some (.int x)] := by
  obtain ⟨tn, tx, t, f, th, sd, la, lw, h, -⟩ := id hI
  obtain ⟨h1, h2, h3, h4, h5, h6, h7⟩ := id h
  obtain ⟨n0, n1, n2, n3, n4, n5, n6, n7, n8⟩ := h6
  have s0 : sam σ (ab_wI σ 50 (upd (σ.1 50) 0 0)) := sam_50 (by decide)
  have hf : ∀ p, p < tP t → f p ≤ 90000 := fun p hp => by have := h5.2.2.2.2 p hp; omega
  have h8 := h1.2.1
  have h256 := two_le8 _ h8
  by_cases hx : inR x (tS t) = true
  · obtain ⟨s, hs, rfl⟩ := inR_of hx (by omega)
    simp only [op2, e75_0, e75_1, e75_4, e75_5, e75_8, e75_11, e75_12, e75_13, e75_14, e75_17, e75_18, e75_21, e75_22, e75_25, e75_26, e76_0, e76_1, e76_2, e76_3, true_or, or_true, true_and, and_true, Option.toList, List.cons_append, List.nil_append, if_true, if_false, reduceIte, sk0, sk11, sk31, sr0_2, sr0_3, sr0_7, c31 (d := 7) (x := nI s) sk11 h3.2.1 h1.2.1, hx, bI_0, Bool.true_eq_false]
    refine c63 (d := 2) h1 h3 (fun p hp => (n0 p hp).1) n1 h5.1 n3 h5.2.1 n5 h5.2.2.1 hf (fun τ cτ sτ => ?_)
    have hag : ∀ c, c ∉ [33, 34, 35, 36, 37, 38] → τ.1 c = σ.1 c := cτ.1
    simp only [e76_6, e76_8, e76_10, e76_11, e76_14, true_or, or_true, true_and, and_true, Option.toList, List.cons_append, List.nil_append, if_true, if_false, reduceIte, sk16, hag 16 (by decide), n3]
    refine c76b h1 (tdV_ag h3 (fun c hc => hag c (by revert c; decide))) h5.2.1 hs sτ (fun v hv => ?_)
    simp only [e75_29, true_or, or_true, true_and, and_true, Option.toList, List.cons_append, List.nil_append, if_true, if_false, reduceIte]
    have sτ2 : sam σ τ := sam_ch cτ (by decide)
    have sm2 : sam σ (ab_wI τ 50 (upd (τ.1 50) 0 0)) := sam_tr sτ2 (sam_50 (by decide))
    have g := bas_sam (Nat.le_refl B) sm2 h
    have fin : ∀ υ y, sam (ab_wI τ 50 (upd (τ.1 50) 0 0)) υ → y = v → (∃ v_1, some (Value.int v) = some v_1 ∧ some (Value.int y) = some v_1) ∧ Inv (B + 9) υ := fun υ y hs2 e => ⟨⟨.int v, rfl, by rw [e]⟩, hI.sam (by omega) (sam_tr sm2 hs2)⟩
    cases hb : sd.testBit s
    · simp only [e138_0, e138_1, e138_2, e138_5, e138_6, e138_7, e138_10, e138_13, e138_14, e138_15, e138_16, e138_19, e138_20, e138_23, e138_26, e138_28, e138_31, e138_32, e138_34, e138_35, true_or, or_true, true_and, and_true, Option.toList, List.cons_append, List.nil_append, if_true, if_false, reduceIte, sk50, c119 (d := 6) (P := tS t) (x := nI s) g.2.2.2.1.2.1 h1.2.1, hx, Bool.not_true, bI_0, g.2.2.2.2.2.1.2.2.2.2.1, c113 (s := sd) (k := s) (by have := h5.2.1; omega) (by omega), hb]
      refine c135S (d := 4) h1 g.2.2.2.1 (fun p hp => (g.2.2.2.2.2.1.1 p hp).2) g.2.2.2.2.2.1.2.2.1 h5.1 g.2.2.2.2.2.1.2.2.2.2.1 h5.2.1 g.2.2.2.2.2.1.2.2.2.2.2.2.1 hf hs (fun υ y cυ hy => ?_)
      simp only [e138_38, true_or, or_true, true_and, and_true, Option.toList, List.cons_append, List.nil_append, if_true, if_false, reduceIte]
      exact fin υ y (chM_sam cυ) (FW_uq h1 h5.2.1 hy hv)
    · simp only [e138_0, e138_1, e138_2, e138_5, e138_6, e138_7, e138_10, e138_13, e138_14, e138_15, e138_16, e138_19, e138_20, e138_23, e138_26, e138_28, e138_31, e138_32, e138_34, e138_35, e138_38, true_or, or_true, true_and, and_true, Option.toList, List.cons_append, List.nil_append, if_true, if_false, reduceIte, sk50, c119 (d := 6) (P := tS t) (x := nI s) g.2.2.2.1.2.1 h1.2.1, hx, Bool.not_true, bI_0, Bool.true_eq_false, g.2.2.2.2.2.1.2.2.2.2.1, c113 (s := sd) (k := s) (by have := h5.2.1; omega) (by omega), hb]
      refine fin _ (-9) (sam_rf _) ?_
      rcases hv with ⟨e, -⟩ | ⟨n, l, r1, r2, -⟩
      · exact e.symm
      · have := can_n r2
        have h10 := Rc_sub r1 s hb
        rw [this] at h10
        exact absurd h10 (by decide)
  · have hx : inR x (tS t) = false := by simpa using hx
    refine op2_q (.int (-1)) hI ?_
    simp only [e75_0, e75_1, e75_4, e75_5, e75_8, e75_11, e75_12, true_or, or_true, true_and, and_true, Option.toList, List.cons_append, List.nil_append, if_true, if_false, reduceIte, sk0, sk11, sr0_2, c31 (d := 7) (x := x) sk11 h3.2.1 h1.2.1, hx, bI_0]
    refine ⟨sam_rf σ, ?_⟩
    have g := bas_sam (Nat.le_refl B) s0 h
    simp only [e138_0, e138_1, e138_2, e138_5, e138_6, e138_7, e138_10, e138_13, e138_14, true_or, or_true, true_and, and_true, Option.toList, List.cons_append, List.nil_append, if_true, if_false, reduceIte, sk50, c119 (d := 6) (P := tS t) (x := x) g.2.2.2.1.2.1 h1.2.1, hx, Bool.not_false, bI_0, Bool.true_eq_false]
    exact s0
