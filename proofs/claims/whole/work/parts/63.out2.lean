/-! OUT, THE MODEL -/
section Out2
variable {f : Nat → Nat} {th st : Nat}
set_option maxHeartbeats 8000000 in
/-- outBy -/
theorem c143 {d T lv P : Nat} {σ : ab_St} {Q : Option Value → ab_St → Prop} (v5 : σ.1 50 5 = nI P) (hP : P ≤ 6) (v7 : σ.1 50 7 = nI th) (hth : th < 2 ^ P) (v52 : ∀ p, p < P → σ.1 52 p = nI (f p)) (hf : ∀ p, p < P → f p < 100000) (hT : T ≤ 54) (hst : st < 64) (hlv : lv < 200000) (hQ : ∀ τ, chL [70, 71] σ τ → Q (some (.long (Wy th st f lv P T))) τ) :
    Ev (d + 1) 143 0 [some (.ref 50), some (.int (nI T)), some (.int (nI st)), some (.int (nI lv)), none, none, none, none] [] σ Q := by
  have hth64 : th < 64 := Nat.lt_of_lt_of_le hth (two_le _ hP)
  have ltT : ∀ i, i ≤ T → (nI T < nI i) = False := fun i hi => eq_false (fun h => by rw [nI_ltI (by omega) (by omega)] at h; omega)
  -- the people
  have keyB : ∀ (m p : Nat) (τ : ab_St) (l5 l6 l7 : Option Value), p + m = P → chL [70, 71] σ τ → (∀ k, k ≤ T → τ.2 70 k = Wy th st f lv p k) → Ev (d + 1) 143 35 [some (.ref 50), some (.int (nI T)), some (.int (nI st)), some (.int (nI lv)), some (.int (nI p)), l5, l6, l7] [] τ Q := by
    intro m
    induction m with
    | zero =>
      intro p τ l5 l6 l7 hp hc hW
      have hpP : p = P := by omega
      subst hpP
      have r5 : τ.1 50 5 = nI p := by rw [hc.1]; exact v5
      have hge : (nI p ≤ nI p) = True := eq_true (nI_le (Nat.le_refl _) (by omega))
      rw [e143_35]
      simp only [e143_37, e143_38, e143_41, e143_218, e143_219, e143_222, e143_223, e143_224, true_or, or_true, true_and, and_true, Option.toList, List.cons_append, List.nil_append, if_true, if_false, reduceIte, hge, sk50, r5, sr50_36, sk70, sn70, in_eq (j := T) (n := 56) (by omega) (by decide), nI_clamp (n := T) (by omega), hW T (Nat.le_refl _)]
      exact hQ τ hc
    | succ m ih =>
      intro p τ l5 l6 l7 hp hc hW
      have hpP : p < P := by omega
      have r5 : τ.1 50 5 = nI P := by rw [hc.1]; exact v5
      have r7 : τ.1 50 7 = nI th := by rw [hc.1]; exact v7
      have hge : (nI P ≤ nI p) = False := eq_false (nI_ge hpP (by omega))
      rw [e143_35]
      cases hb : th.testBit p
      · simp only [e143_37, e143_38, e143_41, e143_44, e143_45, e143_48, e143_50, e143_53, e143_212, e143_215, true_or, or_true, true_and, and_true, Option.toList, List.cons_append, List.nil_append, if_true, if_false, reduceIte, hge, sk50, r5, r7, c113 (s := th) (k := p) (by omega) (by omega), hb, bI_0, nI_1]
        refine ih (p + 1) τ _ _ _ (by omega) hc (fun k hk => ?_)
        rw [Wy_s, hb, if_neg (by decide)]
        exact hW k hk
      · simp only [e143_37, e143_38, e143_41, e143_44, e143_45, e143_48, e143_50, e143_53, e143_56, e143_57, true_or, or_true, true_and, and_true, Option.toList, List.cons_append, List.nil_append, if_true, if_false, reduceIte, hge, sk50, r5, r7, c113 (s := th) (k := p) (by omega) (by omega), hb, bI_0, Bool.true_eq_false]
        have hfp := hf p hpP
        have hW2 : ∀ k, Wy th st f lv (p + 1) k = cv (cnd st f p lv) (Wy th st f lv p) k := fun k => by rw [Wy_s, hb, if_pos rfl]
        generalize Wy th st f lv p = A at hW hW2
        -- the copy
        have keyE : ∀ (m i : Nat) (υ : ab_St) (l6 l7 : Option Value), i + m = T + 1 → chL [70, 71] σ υ → (∀ k, k ≤ T → υ.2 71 k = cv (cnd st f p lv) A k) → (∀ k, k < i → υ.2 70 k = cv (cnd st f p lv) A k) → Ev (d + 1) 143 186 [some (.ref 50), some (.int (nI T)), some (.int (nI st)), some (.int (nI lv)), some (.int (nI p)), some (.int (nI i)), l6, l7] [] υ Q := by
          intro m
          induction m with
          | zero =>
            intro i υ l6 l7 hi hcυ h1 h2
            have hgt : (nI T < nI i) = True := eq_true (nI_lt (by omega) (by omega))
            rw [e143_186]
            simp only [e143_188, e143_189, e143_212, e143_215, true_or, or_true, true_and, and_true, Option.toList, List.cons_append, List.nil_append, if_true, if_false, reduceIte, hgt, nI_1]
            exact ih (p + 1) υ _ _ _ (by omega) hcυ (fun k hk => by rw [hW2]; exact h2 k (by omega))
          | succ m ihE =>
            intro i υ l6 l7 hi hcυ h1 h2
            rw [e143_186]
            simp only [e143_188, e143_189, e143_192, e143_193, e143_196, e143_198, e143_199, e143_202, e143_204, e143_205, e143_206, e143_209, true_or, or_true, true_and, and_true, Option.toList, List.cons_append, List.nil_append, if_true, if_false, reduceIte, ltT i (by omega), sk50, sr50_36, sr50_37, sk70, sn70, sk71, sn71, in_eq (j := i) (n := 56) (by omega) (by decide), nI_clamp (n := i) (by omega), h1 i (by omega), nI_1]
            refine ihE (i + 1) _ _ _ (by omega) (chL_w hcυ (by decide)) (fun k hk => ?_) (fun k hk => ?_)
            · rw [wL_ne _ _ (by decide)]; exact h1 k hk
            · rw [wL_eq]
              by_cases e : k = i
              · rw [e, uL_eq]
              · rw [uL_ne _ _ e]; exact h2 k (by omega)
        -- the totals
        have keyC : ∀ (m i : Nat) (υ : ab_St) (l6 l7 : Option Value), i + m = T + 1 → chL [70, 71] σ υ → (∀ k, k ≤ T → υ.2 70 k = A k) → (∀ k, k < i → υ.2 71 k = cv (cnd st f p lv) A k) → Ev (d + 1) 143 59 [some (.ref 50), some (.int (nI T)), some (.int (nI st)), some (.int (nI lv)), some (.int (nI p)), some (.int (nI i)), l6, l7] [] υ Q := by
          intro m
          induction m with
          | zero =>
            intro i υ l6 l7 hi hcυ h1 h2
            have hgt : (nI T < nI i) = True := eq_true (nI_lt (by omega) (by omega))
            rw [e143_59]
            simp only [e143_61, e143_62, e143_183, e143_184, true_or, or_true, true_and, and_true, Option.toList, List.cons_append, List.nil_append, if_true, if_false, reduceIte, hgt]
            exact keyE (T + 1) 0 υ _ _ (by omega) hcυ (fun k hk => h2 k (by omega)) (fun k hk => by omega)
          | succ m ihC =>
            intro i υ l6 l7 hi hcυ h1 h2
            have ii := in_eq (j := i) (n := 56) (by omega) (by decide)
            have ci := nI_clamp (n := i) (by omega)
            rw [e143_59]
            simp only [e143_61, e143_62, e143_65, e143_66, e143_69, e143_71, e143_72, e143_73, e143_74, true_or, or_true, true_and, and_true, Option.toList, List.cons_append, List.nil_append, if_true, if_false, reduceIte, ltT i (by omega), sk50, sr50_37, sk71, sn71, ii, ci]
            have keyD : ∀ (m x : Nat) (ω : ab_St) (l7 : Option Value), x + m = 10 → chL [70, 71] σ ω → (∀ k, k ≤ T → ω.2 70 k = A k) → (∀ k, k < i → ω.2 71 k = cv (cnd st f p lv) A k) → ω.2 71 i = itn (cvS (cnd st f p lv) A i) x 0 → Ev (d + 1) 143 76 [some (.ref 50), some (.int (nI T)), some (.int (nI st)), some (.int (nI lv)), some (.int (nI p)), some (.int (nI i)), some (.int (nI x)), l7] [] ω Q := by
              intro m
              induction m with
              | zero =>
                intro x ω l7 hx hcω w1 w2 w3
                have hx10 : x = 10 := by omega
                subst hx10
                have hgt : ((9 : Int32) < nI 10) = True := eq_true (by decide)
                rw [e143_76]
                simp only [e143_78, e143_80, e143_177, e143_180, true_or, or_true, true_and, and_true, Option.toList, List.cons_append, List.nil_append, if_true, if_false, reduceIte, hgt, nI_1]
                refine ihC (i + 1) ω _ _ (by omega) hcω w1 (fun k hk => ?_)
                by_cases e : k = i
                · rw [e]; exact w3
                · exact w2 k (by omega)
              | succ m ihD =>
                intro x ω l7 hx hcω w1 w2 w3
                have hgt : ((9 : Int32) < nI x) = False := eq_false (fun h => by
                  have := Int32.lt_iff_toInt_lt.mp h
                  rw [nI_toInt (by omega)] at this
                  have h9 : (9 : Int32).toInt = 9 := rfl
                  omega)
                rw [e143_76]
                by_cases hxi : i < x
                · have hgt2 : (nI i < nI x) = True := eq_true (nI_lt hxi (by omega))
                  simp only [e143_78, e143_80, e143_83, e143_85, e143_87, e143_177, e143_180, true_or, or_true, true_and, and_true, Option.toList, List.cons_append, List.nil_append, if_true, if_false, reduceIte, hgt, hgt2, nI_1]
                  refine ihC (i + 1) ω _ _ (by omega) hcω w1 (fun k hk => ?_)
                  by_cases e : k = i
                  · rw [e, w3]
                    exact (itn_stop2 (cvS (cnd st f p lv) A i) 0 x 10 (by omega) (fun j b h1 _ => cvS_no (fun z => by omega))).symm
                  · exact w2 k (by omega)
                · have hgt2 : (nI i < nI x) = False := eq_false (fun h => by rw [nI_ltI (by omega) (by omega)] at h; exact hxi h)
                  have r52 : ω.1 52 p = nI (f p) := by rw [hcω.1]; exact v52 p hpP
                  have es : nI i - nI x = nI (i - x) := pk_sub (by omega)
                  have nxt : ∀ (y : Int64) (l7 : Option Value), y = (if cnd st f p lv x = true then A (i - x) else 0) → Ev (d + 1) 143 76 [some (.ref 50), some (.int (nI T)), some (.int (nI st)), some (.int (nI lv)), some (.int (nI p)), some (.int (nI i)), some (.int (nI (x + 1))), l7] [] (ab_wL ω 71 (vp_updL (ω.2 71) i (itn (cvS (cnd st f p lv) A i) x 0 + y))) Q := by
                    intro y l7 hy
                    refine ihD (x + 1) _ _ (by omega) (chL_w hcω (by decide)) (fun k hk => ?_) (fun k hk => ?_) ?_
                    · rw [wL_ne _ _ (by decide)]; exact w1 k hk
                    · rw [wL_eq, uL_ne _ _ (by omega)]; exact w2 k hk
                    · rw [wL_eq, uL_eq, hy]
                      show _ = cvS (cnd st f p lv) A i x (itn (cvS (cnd st f p lv) A i) x 0)
                      unfold cvS
                      by_cases hcx : cnd st f p lv x = true
                      · rw [if_pos hcx, if_pos ⟨hcx, by omega⟩]
                      · rw [if_neg hcx, if_neg (fun z => hcx z.1)]
                  cases hs : st.testBit p
                  · have hcn : cnd st f p lv x = decide (lv < f p + x) := by unfold cnd; rw [hs, if_neg (by decide)]
                    by_cases hlt : lv < f p + x
                    · have hle : (nI (f p + x) ≤ nI lv) = False := eq_false (nI_ge hlt (by omega))
                      have hn := nxt (A (i - x)) (some (.int 1)) (by rw [hcn, decide_eq_true hlt, if_pos rfl])
                      simp only [e143_78, e143_80, e143_83, e143_85, e143_87, e143_90, e143_91, e143_93, e143_96, e143_99, e143_100, e143_103, e143_105, e143_106, e143_108, e143_109, e143_110, e143_113, e143_114, e143_117, e143_118, e143_121, e143_122, e143_125, e143_127, e143_128, e143_130, e143_131, e143_132, e143_135, e143_136, e143_139, e143_140, e143_142, e143_143, e143_146, e143_148, e143_149, e143_150, e143_152, e143_155, e143_156, e143_159, e143_161, e143_163, e143_164, e143_165, e143_168, e143_169, e143_170, e143_171, e143_174, true_or, or_true, true_and, and_true, Option.toList, List.cons_append, List.nil_append, if_true, if_false, reduceIte, hgt, hgt2, sk50, sr50_6, sk52, sn52, c113 (s := st) (k := p) (by omega) (by omega), hs, bI_0, in_eq (j := p) (n := 6) (by omega) (by decide), nI_clamp (n := p) (by omega), r52, nI_add, hle, sr50_36, sr50_37, sk70, sn70, sk71, sn71, ii, ci, show ((1 : Int32) = 0) = False from eq_false (by decide), es, in_eq (j := i - x) (n := 56) (by omega) (by decide), nI_clamp (n := i - x) (by omega), w1 (i - x) (by omega), w3, nI_1]
                      exact hn
                    · have hle : (nI (f p + x) ≤ nI lv) = True := eq_true (nI_le (by omega) (by omega))
                      have hn := nxt 0 (some (.int 0)) (by rw [hcn, decide_eq_false hlt, if_neg (by decide)])
                      simp only [e143_78, e143_80, e143_83, e143_85, e143_87, e143_90, e143_91, e143_93, e143_96, e143_99, e143_100, e143_103, e143_105, e143_106, e143_108, e143_109, e143_110, e143_113, e143_114, e143_117, e143_118, e143_121, e143_122, e143_125, e143_127, e143_128, e143_130, e143_131, e143_132, e143_135, e143_136, e143_139, e143_140, e143_142, e143_143, e143_146, e143_148, e143_149, e143_150, e143_152, e143_155, e143_156, e143_159, e143_161, e143_163, e143_164, e143_165, e143_168, e143_169, e143_170, e143_171, e143_174, true_or, or_true, true_and, and_true, Option.toList, List.cons_append, List.nil_append, if_true, if_false, reduceIte, hgt, hgt2, sk50, sr50_6, sk52, sn52, c113 (s := st) (k := p) (by omega) (by omega), hs, bI_0, in_eq (j := p) (n := 6) (by omega) (by decide), nI_clamp (n := p) (by omega), r52, nI_add, hle, sr50_36, sr50_37, sk70, sn70, sk71, sn71, ii, ci, w3, nI_1]
                      exact hn
                  · have hcn : cnd st f p lv x = decide (f p + x = lv) := by unfold cnd; rw [hs, if_pos rfl]
                    have ee : (nI (f p + x) = nI lv) = (f p + x = lv) := propext (nI_eq (by omega) (by omega))
                    by_cases heq : f p + x = lv
                    · have hn := nxt (A (i - x)) (some (.int 1)) (by rw [hcn, decide_eq_true heq, if_pos rfl])
                      simp only [e143_78, e143_80, e143_83, e143_85, e143_87, e143_90, e143_91, e143_93, e143_96, e143_99, e143_100, e143_103, e143_105, e143_106, e143_108, e143_109, e143_110, e143_113, e143_114, e143_117, e143_118, e143_121, e143_122, e143_125, e143_127, e143_128, e143_130, e143_131, e143_132, e143_135, e143_136, e143_139, e143_140, e143_142, e143_143, e143_146, e143_148, e143_149, e143_150, e143_152, e143_155, e143_156, e143_159, e143_161, e143_163, e143_164, e143_165, e143_168, e143_169, e143_170, e143_171, e143_174, true_or, or_true, true_and, and_true, Option.toList, List.cons_append, List.nil_append, if_true, if_false, reduceIte, hgt, hgt2, sk50, sr50_6, sk52, sn52, c113 (s := st) (k := p) (by omega) (by omega), hs, bI_0, Bool.true_eq_false, in_eq (j := p) (n := 6) (by omega) (by decide), nI_clamp (n := p) (by omega), r52, nI_add, ee, eq_true heq, sr50_36, sr50_37, sk70, sn70, sk71, sn71, ii, ci, show ((1 : Int32) = 0) = False from eq_false (by decide), es, in_eq (j := i - x) (n := 56) (by omega) (by decide), nI_clamp (n := i - x) (by omega), w1 (i - x) (by omega), w3, nI_1]
                      exact hn
                    · have hn := nxt 0 (some (.int 0)) (by rw [hcn, decide_eq_false heq, if_neg (by decide)])
                      simp only [e143_78, e143_80, e143_83, e143_85, e143_87, e143_90, e143_91, e143_93, e143_96, e143_99, e143_100, e143_103, e143_105, e143_106, e143_108, e143_109, e143_110, e143_113, e143_114, e143_117, e143_118, e143_121, e143_122, e143_125, e143_127, e143_128, e143_130, e143_131, e143_132, e143_135, e143_136, e143_139, e143_140, e143_142, e143_143, e143_146, e143_148, e143_149, e143_150, e143_152, e143_155, e143_156, e143_159, e143_161, e143_163, e143_164, e143_165, e143_168, e143_169, e143_170, e143_171, e143_174, true_or, or_true, true_and, and_true, Option.toList, List.cons_append, List.nil_append, if_true, if_false, reduceIte, hgt, hgt2, sk50, sr50_6, sk52, sn52, c113 (s := st) (k := p) (by omega) (by omega), hs, bI_0, Bool.true_eq_false, in_eq (j := p) (n := 6) (by omega) (by decide), nI_clamp (n := p) (by omega), r52, nI_add, ee, eq_false heq, sr50_36, sr50_37, sk70, sn70, sk71, sn71, ii, ci, w3, nI_1]
                      exact hn
            refine keyD 10 0 _ _ (by omega) (chL_w hcυ (by decide)) (fun k hk => ?_) (fun k hk => ?_) ?_
            · rw [wL_ne _ _ (by decide)]; exact h1 k hk
            · rw [wL_eq, uL_ne _ _ (by omega)]; exact h2 k hk
            · rw [wL_eq, uL_eq]; rfl
        exact keyC (T + 1) 0 τ _ _ (by omega) hc hW (fun k hk => by omega)
  -- the row of ones and noughts
  have keyA : ∀ (m i : Nat) (τ : ab_St), i + m = T + 1 → chL [70, 71] σ τ → (∀ k, k < i → τ.2 70 k = if k = 0 then 1 else 0) → Ev (d + 1) 143 3 [some (.ref 50), some (.int (nI T)), some (.int (nI st)), some (.int (nI lv)), some (.int (nI i)), none, none, none] [] τ Q := by
    intro m
    induction m with
    | zero =>
      intro i τ hi hc h1
      have hgt : (nI T < nI i) = True := eq_true (nI_lt (by omega) (by omega))
      rw [e143_3]
      simp only [e143_5, e143_6, e143_32, e143_33, true_or, or_true, true_and, and_true, Option.toList, List.cons_append, List.nil_append, if_true, if_false, reduceIte, hgt]
      exact keyB P 0 τ _ _ _ (by omega) hc (fun k hk => h1 k (by omega))
    | succ m ih =>
      intro i τ hi hc h1
      rw [e143_3]
      by_cases e : i = 0
      · subst e
        simp only [e143_5, e143_6, e143_9, e143_10, e143_13, e143_15, e143_17, e143_20, e143_21, e143_24, e143_25, e143_26, e143_29, true_or, or_true, true_and, and_true, Option.toList, List.cons_append, List.nil_append, if_true, if_false, reduceIte, ltT 0 (by omega), show (nI 0 = (0 : Int32)) = True from eq_true rfl, sk50, sr50_36, sk70, sn70, in_eq (j := 0) (n := 56) (by omega) (by decide), nI_clamp (n := 0) (by omega), nI_1]
        refine ih 1 _ (by omega) (chL_w hc (by decide)) (fun k hk => ?_)
        rw [wL_eq, show k = 0 by omega, uL_eq, if_pos rfl]
      · have e0 : (nI i = (0 : Int32)) = False := eq_false (nI_ne0 (by omega) (by omega))
        simp only [e143_5, e143_6, e143_9, e143_10, e143_13, e143_15, e143_17, e143_20, e143_21, e143_24, e143_25, e143_26, e143_29, true_or, or_true, true_and, and_true, Option.toList, List.cons_append, List.nil_append, if_true, if_false, reduceIte, ltT i (by omega), e0, sk50, sr50_36, sk70, sn70, in_eq (j := i) (n := 56) (by omega) (by decide), nI_clamp (n := i) (by omega), nI_1]
        refine ih (i + 1) _ (by omega) (chL_w hc (by decide)) (fun k hk => ?_)
        rw [wL_eq]
        by_cases e2 : k = i
        · rw [e2, uL_eq, if_neg e]
        · rw [uL_ne _ _ e2]; exact h1 k (by omega)
  simp only [e143_0, e143_1]
  exact keyA (T + 1) 0 σ (by omega) (chL_rf _ _) (fun k hk => by omega)
theorem cv_0 {C : Nat → Bool} {A : Nat → Int64} (h : ∀ k, A k = 0) (k : Nat) : cv C A k = 0 := by
  unfold cv
  rw [itn_stop2 (cvS C A k) 0 0 10 (by omega) (fun i b _ _ => by unfold cvS; rw [h]; split <;> rw [Int64.add_zero])]
  rfl
/-- where the one of them that is asked for can't come to the level, there are no ways -/
theorem Wy_0 {lv o : Nat} (h1 : th.testBit o = true) (h2 : st.testBit o = true) (h3 : lv < f o ∨ f o + 9 < lv) : ∀ (j : Nat), o < j → ∀ k, Wy th st f lv j k = 0 := by
  intro j
  induction j with
  | zero => intro h; omega
  | succ j ih =>
    intro h k
    rw [Wy_s]
    by_cases e : j = o
    · subst e
      rw [h1, if_pos rfl]
      refine cv_z (fun x hx z => ?_)
      have z1 := z.1
      unfold cnd at z1
      rw [h2, if_pos rfl] at z1
      have := of_decide_eq_true z1
      omega
    · split
      · exact cv_0 (fun k => ih (by omega) k) k
      · exact ih (by omega) k
theorem sum_sh (F : Nat → Int64) (a m : Nat) (h : ∀ i, i < a → F i = 0) : itn (fun i s => s + F i) (a + m) 0 = itn (fun i s => s + F (a + i)) m 0 := by
  induction m with
  | zero =>
    rw [Nat.add_zero, itn_stop2 (fun i s => s + F i) 0 0 a (by omega) (fun i b _ hi => by rw [h i hi, Int64.add_zero])]
    rfl
  | succ m ih =>
    show itn (fun i s => s + F i) (a + m) 0 + F (a + m) = itn (fun i s => s + F (a + i)) m 0 + F (a + m)
    rw [ih]
def hi6 (f : Nat → Nat) (P : Nat) : Nat := itn (fun p a => if a < f p then f p else a) P 0
theorem hi6_s (P : Nat) : hi6 f (P + 1) = if hi6 f P < f P then f P else hi6 f P := rfl
theorem hi6_ge : ∀ (P p : Nat), p < P → f p ≤ hi6 f P := by
  intro P
  induction P with
  | zero => intro p h; omega
  | succ P ih =>
    intro p h
    rw [hi6_s]
    by_cases e : p = P
    · rw [e]; split <;> omega
    · have := ih p (by omega)
      split <;> omega
theorem hi6_le {B : Nat} : ∀ (P : Nat), (∀ p, p < P → f p ≤ B) → hi6 f P ≤ B := by
  intro P
  induction P with
  | zero => intro h; exact Nat.zero_le _
  | succ P ih =>
    intro h
    rw [hi6_s]
    have := ih (fun p hp => h p (by omega))
    have := h P (by omega)
    split <;> omega
theorem sum_out {o P T : Nat} (hP : P ≤ 6) (ho : o < P) (h1 : th.testBit o = true) (h2 : st.testBit o = true) (hth : th < 2 ^ P) : itn (fun lv s => s + Wy th st f lv P T) (hi6 f P + 10) 0 = itn (fun m s => s + Wy th st f (f o + m) 6 T) 10 0 := by
  have hge := hi6_ge (f := f) P o ho
  rw [itn_stop2 (fun lv s => s + Wy th st f lv P T) 0 (f o + 10) (hi6 f P + 10) (by omega) (fun i b hi _ => by rw [Wy_0 h1 h2 (Or.inr (by omega)) P ho T, Int64.add_zero]), sum_sh (fun lv => Wy th st f lv P T) (f o) 10 (fun i hi => Wy_0 h1 h2 (Or.inl hi) P ho T)]
  exact itn_c 0 10 (fun i b _ => by rw [Wy_stop hth hP])
end Out2
theorem in54 (x : Int32) : decide ((0 : Int64) ≤ x.toInt64 ∧ x.toInt64 ≤ 54) = inR x 55 := inL (x := x) (n := 55) (by decide)
theorem ti54 : (54 : Int32).toInt = 54 := rfl
set_option maxHeartbeats 8000000 in
theorem op_out {B : Nat} {σ : ab_St} {x y : Int32} (hB : B < 90000) (hI : Inv B σ) : op2 B σ 85 [some (.ref 0), some (.int x), some (.int y)] 142 [some (.ref 50), some (.int x), some (.int y), none, none, none, none] := by
  obtain ⟨tn, tx, t, f, th, sd, la, lw, h, -⟩ := id hI
  have hst := bas_stV hB h
  obtain ⟨h1, h2, h3, h4, h5, h6, h7⟩ := id h
  obtain ⟨n0, n1, n2, n3, n4, n5, n6, n7, n8⟩ := h6
  have s0 : sam σ (ab_wI σ 50 (upd (σ.1 50) 0 0)) := sam_50 (by decide)
  have hf : ∀ p, p < tP t → f p ≤ 90000 := fun p hp => by have := h5.2.2.2.2 p hp; omega
  have hP6 := h1.1
  have h64 := two_le _ hP6
  have hth := h5.1
  have e5 : (ab_wI σ 50 (upd (σ.1 50) 0 0)).1 50 5 = nI (tP t) := by simp only [wI_get, upd_get, Nat.reduceEqDiff, reduceIte, if_true, if_false]; exact h4.1
  have e7 : (ab_wI σ 50 (upd (σ.1 50) 0 0)).1 50 7 = nI th := by simp only [wI_get, upd_get, Nat.reduceEqDiff, reduceIte, if_true, if_false]; exact n2
  have shP := nI_shl (k := tP t) (by omega)
  have inY : decide ((0 : Int64) ≤ y.toInt64 ∧ y.toInt64 ≤ (nI (2 ^ tP t) - 1).toInt64) = inR y (2 ^ tP t) := inL (x := y) (n := 2 ^ tP t) (by omega)
  by_cases hx : inR x 55 = true
  · obtain ⟨T, hT, rfl⟩ := inR_of hx (by decide)
    have x1 : (nI T < 0) = False := eq_false (nI_pos (by omega))
    have x2 : ((54 : Int32) < nI T) = False := eq_false (fun h => by
      have := Int32.lt_iff_toInt_lt.mp h
      rw [nI_toInt (by omega), ti54] at this
      omega)
    by_cases hy : inR y (2 ^ tP t) = true
    · obtain ⟨st, hst2, rfl⟩ := inR_of hy (by omega)
      have y1 : (nI st < 0) = False := eq_false (nI_pos (by omega))
      have y2 : (nI st < nI (2 ^ tP t)) = True := eq_true (nI_lt hst2 (by omega))
      have hnd : nd st th < 64 := nd_lt (n := 6) (by omega)
      have mk0 : ∀ {τ : ab_St} (_ : sam σ τ), True := fun _ => trivial
      by_cases t0 : th = 0
      · subst t0
        have cl : ∀ v : Int64, v = (if T = 0 ∧ st = 0 then 1 else 0) → op2 B σ 85 [some (.ref 0), some (.int (nI T)), some (.int (nI st))] 142 [some (.ref 50), some (.int (nI T)), some (.int (nI st)), none, none, none, none] := by
          intro v hv
          refine op2_q (.long v) hI ?_
          have z0 : (nI 0 = (0 : Int32)) = True := eq_true rfl
          by_cases T0 : T = 0
          · subst T0
            by_cases st0 : st = 0
            · subst st0
              rw [if_pos ⟨rfl, rfl⟩] at hv
              subst hv
              simp only [e85_0, e85_1, e85_4, e85_5, e85_7, e85_10, e85_11, e85_14, e85_15, e85_16, e85_17, e85_20, e85_23, e85_24, e85_27, e85_30, e85_31, e85_32, e85_35, e85_36, e85_39, e85_40, e85_41, e86_0, e86_1, e86_4, e86_7, e86_8, e86_11, e86_12, e86_15, e86_16, e86_19, e86_20, e85_44, true_or, or_true, true_and, and_true, Option.toList, List.cons_append, List.nil_append, if_true, if_false, reduceIte, sk0, sk11, sk16, sk46, sr0_2, sr0_3, sr0_9, x1, x2, y1, y2, h3.1, shP, n1, z0]
              refine ⟨sam_rf σ, ?_⟩
              simp only [e142_0, e142_1, e142_2, e142_5, e142_6, e142_7, e142_8, e142_11, e142_14, e142_17, e142_18, e142_19, e142_20, e142_21, e142_22, e142_25, e142_26, e142_27, e142_28, e142_29, e142_32, e142_35, e142_38, e142_39, e142_40, e142_43, e142_46, e142_47, e142_50, e142_51, e142_54, e142_55, e142_58, e142_59, true_or, or_true, true_and, and_true, Option.toList, List.cons_append, List.nil_append, if_true, if_false, reduceIte, sk50, c101, in54, hx, bI_0, Bool.true_eq_false, e5, shP, inY, hy, e7, z0]
              exact s0
            · rw [if_neg (fun z => st0 z.2)] at hv
              subst hv
              have zs : (nI st = (0 : Int32)) = False := eq_false (nI_ne0 (by omega) (by omega))
              simp only [e85_0, e85_1, e85_4, e85_5, e85_7, e85_10, e85_11, e85_14, e85_15, e85_16, e85_17, e85_20, e85_23, e85_24, e85_27, e85_30, e85_31, e85_32, e85_35, e85_36, e85_39, e85_40, e85_41, e86_0, e86_1, e86_4, e86_7, e86_8, e86_11, e86_12, e86_15, e86_16, e86_19, e86_20, e85_44, true_or, or_true, true_and, and_true, Option.toList, List.cons_append, List.nil_append, if_true, if_false, reduceIte, sk0, sk11, sk16, sk46, sr0_2, sr0_3, sr0_9, x1, x2, y1, y2, h3.1, shP, n1, z0, zs]
              refine ⟨sam_rf σ, ?_⟩
              simp only [e142_0, e142_1, e142_2, e142_5, e142_6, e142_7, e142_8, e142_11, e142_14, e142_17, e142_18, e142_19, e142_20, e142_21, e142_22, e142_25, e142_26, e142_27, e142_28, e142_29, e142_32, e142_35, e142_38, e142_39, e142_40, e142_43, e142_46, e142_47, e142_50, e142_51, e142_54, e142_55, e142_58, e142_59, true_or, or_true, true_and, and_true, Option.toList, List.cons_append, List.nil_append, if_true, if_false, reduceIte, sk50, c101, in54, hx, bI_0, Bool.true_eq_false, e5, shP, inY, hy, e7, z0, zs]
              exact s0
          · rw [if_neg (fun z => T0 z.1)] at hv
            subst hv
            have zT : (nI T = (0 : Int32)) = False := eq_false (nI_ne0 (by omega) (by omega))
            simp only [e85_0, e85_1, e85_4, e85_5, e85_7, e85_10, e85_11, e85_14, e85_15, e85_16, e85_17, e85_20, e85_23, e85_24, e85_27, e85_30, e85_31, e85_32, e85_35, e85_36, e85_39, e85_40, e85_41, e86_0, e86_1, e86_4, e86_7, e86_8, e86_11, e86_12, e86_15, e86_16, e86_19, e86_20, e85_44, true_or, or_true, true_and, and_true, Option.toList, List.cons_append, List.nil_append, if_true, if_false, reduceIte, sk0, sk11, sk16, sk46, sr0_2, sr0_3, sr0_9, x1, x2, y1, y2, h3.1, shP, n1, z0, zT]
            refine ⟨sam_rf σ, ?_⟩
            simp only [e142_0, e142_1, e142_2, e142_5, e142_6, e142_7, e142_8, e142_11, e142_14, e142_17, e142_18, e142_19, e142_20, e142_21, e142_22, e142_25, e142_26, e142_27, e142_28, e142_29, e142_32, e142_35, e142_38, e142_39, e142_40, e142_43, e142_46, e142_47, e142_50, e142_51, e142_54, e142_55, e142_58, e142_59, true_or, or_true, true_and, and_true, Option.toList, List.cons_append, List.nil_append, if_true, if_false, reduceIte, sk50, c101, in54, hx, bI_0, Bool.true_eq_false, e5, shP, inY, hy, e7, z0, zT]
            exact s0
        exact cl _ rfl
      · have zt : (nI th = (0 : Int32)) = False := eq_false (nI_ne0 (by omega) (by omega))
        have c87' := fun Q => c87 (d := 5) (s := st) (σ := σ) (Q := Q) (by omega)
        by_cases st0 : st = 0
        · subst st0
          have f0 : fst6 0 0 6 = -9 := rfl
          refine op2_q (.long 0) hI ?_
          simp only [e85_0, e85_1, e85_4, e85_5, e85_7, e85_10, e85_11, e85_14, e85_15, e85_16, e85_17, e85_20, e85_23, e85_24, e85_27, e85_30, e85_31, e85_32, e85_35, e85_36, e85_39, e85_40, e85_41, e86_0, e86_1, e86_4, e86_7, e86_8, e86_11, e86_12, e86_15, e86_16, e86_19, e86_20, e86_21, e86_22, e86_25, e86_27, e86_29, e86_31, e86_34, e86_35, e86_36, e86_39, e86_40, e86_41, e86_42, e86_45, e86_46, e85_44, true_or, or_true, true_and, and_true, Option.toList, List.cons_append, List.nil_append, if_true, if_false, reduceIte, sk0, sk11, sk16, sk46, sr0_2, sr0_3, sr0_9, x1, x2, y1, y2, h3.1, shP, n1, zt, c87', f0]
          refine ⟨sam_rf σ, ?_⟩
          simp only [e142_0, e142_1, e142_2, e142_5, e142_6, e142_7, e142_8, e142_11, e142_14, e142_17, e142_18, e142_19, e142_20, e142_21, e142_22, e142_25, e142_26, e142_27, e142_28, e142_29, e142_32, e142_35, e142_38, e142_39, e142_40, e142_43, e142_46, e142_47, e142_50, e142_51, e142_54, e142_55, e142_58, e142_59, e142_60, e142_61, e142_64, e142_65, e142_66, e142_69, e142_70, e142_71, e142_72, e142_75, e142_76, true_or, or_true, true_and, and_true, Option.toList, List.cons_append, List.nil_append, if_true, if_false, reduceIte, sk50, c101, in54, hx, bI_0, Bool.true_eq_false, e5, shP, inY, hy, e7, zt, show (nI 0 = (0 : Int32)) = True from eq_true rfl]
          exact s0
        · have zs : (nI st = (0 : Int32)) = False := eq_false (nI_ne0 (by omega) (by omega))
          obtain ⟨b, hb⟩ := bit_ne0 st0
          have hbP := bit_lt hst2 hb
          obtain ⟨o, -, ho6, hob, hof⟩ := fst_yes (s := st) 6 0 b (by omega) (by omega) hb
          have hoP := bit_lt hst2 hob
          have e9 : (nI o = -9) = False := m9_ne (by omega)
          by_cases hnz : nd st th = 0
          · have hot : th.testBit o = true := by
              have := nd_bit st th o
              rw [hnz, Nat.zero_testBit, hob, Bool.true_and] at this
              simpa using this.symm
            have zn : (nI (nd st th) = (0 : Int32)) = True := eq_true (by rw [hnz]; rfl)
            refine op2_q (.long (itn (fun m s => s + Wy th st f (f o + m) 6 T) 10 0)) hI ?_
            simp only [e85_0, e85_1, e85_4, e85_5, e85_7, e85_10, e85_11, e85_14, e85_15, e85_16, e85_17, e85_20, e85_23, e85_24, e85_27, e85_30, e85_31, e85_32, e85_35, e85_36, e85_39, e85_40, e85_41, e86_0, e86_1, e86_4, e86_7, e86_8, e86_11, e86_12, e86_15, e86_16, e86_19, e86_20, e86_21, e86_22, e86_25, e86_27, e86_29, e86_31, e86_34, e86_35, e86_36, e86_39, e86_40, e86_41, e86_42, e86_45, e86_46, e86_47, e86_48, e86_50, e86_51, true_or, or_true, true_and, and_true, Option.toList, List.cons_append, List.nil_append, if_true, if_false, reduceIte, sk0, sk11, sk16, sk46, sr0_2, sr0_3, sr0_9, x1, x2, y1, y2, h3.1, shP, n1, zt, c87', hof, e9, nI_nd (a := st) (b := th) (by omega) (by omega), zn]
            refine c86b (d := 4) hst (by omega) (by omega) (by omega) hot (by have := hf o hoP; omega) (fun τ cτ => ?_)
            simp only [e85_44, true_or, or_true, true_and, and_true, Option.toList, List.cons_append, List.nil_append, if_true, if_false, reduceIte]
            refine ⟨chL_sam cτ, ?_⟩
            have q5 : (ab_wI τ 50 (upd (τ.1 50) 0 0)).1 50 5 = nI (tP t) := by simp only [wI_get, upd_get, Nat.reduceEqDiff, reduceIte, if_true, if_false]; rw [cτ.1]; exact h4.1
            have q7 : (ab_wI τ 50 (upd (τ.1 50) 0 0)).1 50 7 = nI th := by simp only [wI_get, upd_get, Nat.reduceEqDiff, reduceIte, if_true, if_false]; rw [cτ.1]; exact n2
            have q52 : ∀ p, p < tP t → (ab_wI τ 50 (upd (τ.1 50) 0 0)).1 52 p = nI (f p) := fun p hp => by simp only [wI_get, upd_get, Nat.reduceEqDiff, reduceIte, if_true, if_false]; rw [cτ.1]; exact (n0 p hp).2
            have sτ : sam τ (ab_wI τ 50 (upd (τ.1 50) 0 0)) := sam_50 (by decide)
            simp only [e142_0, e142_1, e142_2, e142_5, e142_6, e142_7, e142_8, e142_11, e142_14, e142_17, e142_18, e142_19, e142_20, e142_21, e142_22, e142_25, e142_26, e142_27, e142_28, e142_29, e142_32, e142_35, e142_38, e142_39, e142_40, e142_43, e142_46, e142_47, e142_50, e142_51, e142_54, e142_55, e142_58, e142_59, e142_60, e142_61, e142_64, e142_65, e142_66, e142_69, e142_70, e142_71, e142_72, e142_75, e142_76, e142_77, e142_78, e142_79, e142_80, true_or, or_true, true_and, and_true, Option.toList, List.cons_append, List.nil_append, if_true, if_false, reduceIte, sk50, c101, in54, hx, bI_0, Bool.true_eq_false, q5, shP, inY, hy, q7, zt, zs, nI_nd (a := st) (b := th) (by omega) (by omega), zn]
            generalize ab_wI τ 50 (upd (τ.1 50) 0 0) = τ1 at q5 q7 q52 sτ
            have hi0 : ∀ i, i ≤ tP t → hi6 f i ≤ 90000 := fun i hi => hi6_le i (fun p hp => hf p (by omega))
            have l1 := ev_up (fun i => Ev (7 + 1) 142 82 [some (.ref 50), some (.int (nI T)), some (.int (nI st)), some (.int (nI (hi6 f i))), some (.int (nI i)), none, none] [] τ1 (fun r' σ2 => r' = some (Value.long (itn (fun m s => s + Wy th st f (f o + m) 6 T) 10 0)) ∧ sam τ σ2)) (tP t) (fun i hi => by
              rw [e142_82]
              have hge : (nI (tP t) ≤ nI i) = False := eq_false (nI_ge hi (by omega))
              have hh := hi0 i (by omega)
              have hfi := hf i hi
              rw [hi6_s]
              by_cases hlt : hi6 f i < f i
              · have hle : (nI (f i) ≤ nI (hi6 f i)) = False := eq_false (nI_ge hlt (by omega))
                simp only [e142_84, e142_85, e142_88, e142_91, e142_92, e142_95, e142_97, e142_98, e142_99, e142_102, e142_103, e142_106, e142_108, e142_109, e142_112, e142_113, e142_114, e142_117, true_or, or_true, true_and, and_true, Option.toList, List.cons_append, List.nil_append, if_true, if_false, reduceIte, sk50, q5, hge, sr50_6, sk52, sn52, in_eq (j := i) (n := 6) (by omega) (by decide), nI_clamp (n := i) (by omega), q52 i hi, hle, nI_1, if_pos hlt]
              · have hle : (nI (f i) ≤ nI (hi6 f i)) = True := eq_true (nI_le (by omega) (by omega))
                simp only [e142_84, e142_85, e142_88, e142_91, e142_92, e142_95, e142_97, e142_98, e142_99, e142_102, e142_103, e142_106, e142_108, e142_109, e142_112, e142_113, e142_114, e142_117, true_or, or_true, true_and, and_true, Option.toList, List.cons_append, List.nil_append, if_true, if_false, reduceIte, sk50, q5, hge, sr50_6, sk52, sn52, in_eq (j := i) (n := 6) (by omega) (by decide), nI_clamp (n := i) (by omega), q52 i hi, hle, nI_1, if_neg hlt])
            rw [show (some (Value.int (0 : Int32))) = some (.int (nI 0)) from rfl]
            refine (show _ = _ from l1).mpr ?_
            have hge : (nI (tP t) ≤ nI (tP t)) = True := eq_true (nI_le (Nat.le_refl _) (by omega))
            rw [e142_82]
            simp only [e142_84, e142_85, e142_88, e142_120, e142_121, e142_123, e142_124, true_or, or_true, true_and, and_true, Option.toList, List.cons_append, List.nil_append, if_true, if_false, reduceIte, sk50, q5, hge]
            have hh := hi0 (tP t) (Nat.le_refl _)
            have n9 : nI (hi6 f (tP t)) + 9 = nI (hi6 f (tP t) + 9) := nI_add _ 9
            have key : ∀ (m i : Nat) (υ : ab_St), i + m = hi6 f (tP t) + 10 → chL [70, 71] τ1 υ → Ev (7 + 1) 142 126 [some (.ref 50), some (.int (nI T)), some (.int (nI st)), some (.int (nI (hi6 f (tP t)))), some (.long (itn (fun lv s => s + Wy th st f lv (tP t) T) i 0)), none, some (.int (nI i))] [] υ (fun r' σ2 => r' = some (Value.long (itn (fun m s => s + Wy th st f (f o + m) 6 T) 10 0)) ∧ sam τ σ2) := by
              intro m
              induction m with
              | zero =>
                intro i υ hi hc
                have hgt : (nI (hi6 f (tP t) + 9) < nI i) = True := eq_true (nI_lt (by omega) (by omega))
                rw [e142_126]
                simp only [e142_128, e142_129, e142_131, e142_132, e142_154, e142_156, true_or, or_true, true_and, and_true, Option.toList, List.cons_append, List.nil_append, if_true, if_false, reduceIte, n9, hgt]
                rw [show i = hi6 f (tP t) + 10 by omega, sum_out hP6 hoP hot hob hth]
                exact ⟨rfl, sam_tr sτ (chL_sam hc)⟩
              | succ m ih =>
                intro i υ hi hc
                have hgt : (nI (hi6 f (tP t) + 9) < nI i) = False := eq_false (fun h => by rw [nI_ltI (by omega) (by omega)] at h; omega)
                rw [e142_126]
                simp only [e142_128, e142_129, e142_131, e142_132, e142_135, e142_137, e142_138, e142_139, e142_140, e142_142, true_or, or_true, true_and, and_true, Option.toList, List.cons_append, List.nil_append, if_true, if_false, reduceIte, n9, hgt, sk50]
                refine c143 (d := 6) (f := f) (th := th) (st := st) (P := tP t) (by rw [hc.1]; exact q5) hP6 (by rw [hc.1]; exact q7) hth (by rw [hc.1]; exact q52) (fun p hp => by have := hf p hp; omega) (by omega) (by omega) (by omega) (fun ω cω => ?_)
                simp only [e142_145, e142_146, e142_148, e142_151, true_or, or_true, true_and, and_true, Option.toList, List.cons_append, List.nil_append, if_true, if_false, reduceIte, nI_1]
                exact ih (i + 1) ω (by omega) (chL_tr hc cω)
            exact key (hi6 f (tP t) + 10) 0 τ1 (by omega) (chL_rf _ _)
          · have zn : (nI (nd st th) = (0 : Int32)) = False := eq_false (nI_ne0 (by omega) (by omega))
            refine op2_q (.long 0) hI ?_
            simp only [e85_0, e85_1, e85_4, e85_5, e85_7, e85_10, e85_11, e85_14, e85_15, e85_16, e85_17, e85_20, e85_23, e85_24, e85_27, e85_30, e85_31, e85_32, e85_35, e85_36, e85_39, e85_40, e85_41, e86_0, e86_1, e86_4, e86_7, e86_8, e86_11, e86_12, e86_15, e86_16, e86_19, e86_20, e86_21, e86_22, e86_25, e86_27, e86_29, e86_31, e86_34, e86_35, e86_36, e86_39, e86_40, e86_41, e86_42, e86_45, e86_46, e85_44, true_or, or_true, true_and, and_true, Option.toList, List.cons_append, List.nil_append, if_true, if_false, reduceIte, sk0, sk11, sk16, sk46, sr0_2, sr0_3, sr0_9, x1, x2, y1, y2, h3.1, shP, n1, zt, c87', hof, e9, nI_nd (a := st) (b := th) (by omega) (by omega), zn]
            refine ⟨sam_rf σ, ?_⟩
            simp only [e142_0, e142_1, e142_2, e142_5, e142_6, e142_7, e142_8, e142_11, e142_14, e142_17, e142_18, e142_19, e142_20, e142_21, e142_22, e142_25, e142_26, e142_27, e142_28, e142_29, e142_32, e142_35, e142_38, e142_39, e142_40, e142_43, e142_46, e142_47, e142_50, e142_51, e142_54, e142_55, e142_58, e142_59, e142_60, e142_61, e142_64, e142_65, e142_66, e142_69, e142_70, e142_71, e142_72, e142_75, e142_76, true_or, or_true, true_and, and_true, Option.toList, List.cons_append, List.nil_append, if_true, if_false, reduceIte, sk50, c101, in54, hx, bI_0, Bool.true_eq_false, e5, shP, inY, hy, e7, zt, zs, nI_nd (a := st) (b := th) (by omega) (by omega), zn]
            exact s0
    · have hy : inR y (2 ^ tP t) = false := by simpa using hy
      refine op2_q (.long (-2)) hI ?_
      have hy2 : y.toInt < 0 ∨ (2 ^ tP t : Nat) ≤ y.toInt := by
        unfold inR at hy
        have := of_decide_eq_false hy
        omega
      have key : Ev 8 142 0 [some (.ref 50), some (.int (nI T)), some (.int y), none, none, none, none] [] σ (fun r σ2 => r = some (.long (-2)) ∧ sam σ σ2) := by
        simp only [e142_0, e142_1, e142_2, e142_5, e142_6, e142_7, e142_8, e142_11, e142_14, e142_17, e142_18, e142_19, e142_20, e142_21, e142_22, e142_25, e142_26, e142_27, e142_28, e142_29, e142_32, e142_35, e142_38, true_or, or_true, true_and, and_true, Option.toList, List.cons_append, List.nil_append, if_true, if_false, reduceIte, sk50, c101, in54, hx, bI_0, Bool.true_eq_false, e5, shP, inY, hy]
        exact s0
      have ey : (y < nI (2 ^ tP t)) = (y.toInt < ((2 ^ tP t : Nat) : Int)) := ltI (by omega)
      by_cases z : y.toInt < 0
      · simp only [e85_0, e85_1, e85_4, e85_5, e85_7, e85_10, e85_11, e85_14, e85_15, e85_16, e85_17, e85_20, e85_23, e85_24, e85_27, e85_30, true_or, or_true, true_and, and_true, Option.toList, List.cons_append, List.nil_append, if_true, if_false, reduceIte, x1, x2, lt0_iff, eq_true z]
        exact ⟨sam_rf σ, key⟩
      · simp only [e85_0, e85_1, e85_4, e85_5, e85_7, e85_10, e85_11, e85_14, e85_15, e85_16, e85_17, e85_20, e85_23, e85_24, e85_27, e85_30, true_or, or_true, true_and, and_true, Option.toList, List.cons_append, List.nil_append, if_true, if_false, reduceIte, x1, x2, lt0_iff, eq_false z, sk0, sr0_2, sk11, h3.1, shP, ey, eq_false (show ¬ y.toInt < ((2 ^ tP t : Nat) : Int) by omega)]
        exact ⟨sam_rf σ, key⟩
  · have hx : inR x 55 = false := by simpa using hx
    refine op2_q (.long (-2)) hI ?_
    have hx2 : x.toInt < 0 ∨ 55 ≤ x.toInt := by
      unfold inR at hx
      have := of_decide_eq_false hx
      omega
    have key : Ev 8 142 0 [some (.ref 50), some (.int x), some (.int y), none, none, none, none] [] σ (fun r σ2 => r = some (.long (-2)) ∧ sam σ σ2) := by
      simp only [e142_0, e142_1, e142_2, e142_5, e142_6, e142_7, e142_8, e142_11, e142_14, e142_17, e142_18, e142_19, e142_20, e142_21, e142_22, e142_25, e142_26, e142_27, e142_28, e142_29, e142_32, e142_35, e142_38, true_or, or_true, true_and, and_true, Option.toList, List.cons_append, List.nil_append, if_true, if_false, reduceIte, sk50, c101, in54, hx, bI_0]
      exact s0
    by_cases z : x.toInt < 0
    · simp only [e85_0, e85_1, e85_4, e85_5, e85_7, e85_10, e85_11, e85_14, e85_15, e85_16, e85_17, e85_20, e85_23, e85_24, e85_27, e85_30, true_or, or_true, true_and, and_true, Option.toList, List.cons_append, List.nil_append, if_true, if_false, reduceIte, lt0_iff, eq_true z]
      exact ⟨sam_rf σ, key⟩
    · have ex : ((54 : Int32) < x) = True := eq_true (by rw [Int32.lt_iff_toInt_lt, ti54]; omega)
      simp only [e85_0, e85_1, e85_4, e85_5, e85_7, e85_10, e85_11, e85_14, e85_15, e85_16, e85_17, e85_20, e85_23, e85_24, e85_27, e85_30, true_or, or_true, true_and, and_true, Option.toList, List.cons_append, List.nil_append, if_true, if_false, reduceIte, lt0_iff, eq_false z, ex]
      exact ⟨sam_rf σ, key⟩
