/-! CHANCE, BOTH -/
theorem wL_get (σ : ab_St) (c k : Nat) (g : Nat → Int64) : (ab_wL σ c g).2 k = if k = c then g else σ.2 k := by
  by_cases e : k = c
  · subst e; rw [wL_eq, if_pos rfl]
  · rw [wL_ne σ g e, if_neg e]
theorem uL_get (g : Nat → Int64) (k j : Nat) (x : Int64) : vp_updL g k x j = if j = k then x else g j := rfl
theorem cn_f (N : Nat) (a : Nat × Nat) : cn (N + 1) a = cn N (cn2 (cn1 a)) := by
  induction N with
  | zero => rfl
  | succ N ih => rw [cn_s, ih, ← cn_s]
theorem cmp0 {a : Nat} (ha : a < 2 ^ 62) : (lg_cmp (lN a) 0 = 0) = (a = 0) := propext ((lg_cmp_eq _ _).trans (pk_lEQ (a := a) (b := 0) (by omega) (by decide)))
section Chance
variable {f : Nat → Nat} {th : Nat}
set_option maxHeartbeats 8000000 in
/-- cancel -/
theorem c96 {d N : Nat} {σ : ab_St} {Q : Option Value → ab_St → Prop} (hN : N ≤ 6) {U L : Nat} (hU : U < 2 ^ 60) (hL : L < 2 ^ 60) (v2 : σ.2 46 2 = lN U) (v3 : σ.2 46 3 = lN L) (hQ : ∀ τ, τ.1 = σ.1 → τ.2 46 2 = lN (cn N (U, L)).1 → τ.2 46 3 = lN (cn N (U, L)).2 → Q none τ) : Ev d 96 0 [some (.ref 46), some (.int (nI N)), none] [] σ Q := by
  have z2 : (¬ (2 : Int64) = 0) = True := eq_true (by decide)
  have z5 : (¬ (5 : Int64) = 0) = True := eq_true (by decide)
  have st2 : ∀ (u l j : Nat) (τ : ab_St), u < 2 ^ 60 → l < 2 ^ 60 → τ.2 46 2 = lN u → τ.2 46 3 = lN l → (∀ τ', τ'.1 = τ.1 → τ'.2 46 2 = lN (cn1 (u, l)).1 → τ'.2 46 3 = lN (cn1 (u, l)).2 → Ev d 96 57 [some (.ref 46), some (.int (nI N)), some (.int (nI j))] [] τ' Q) → Ev d 96 7 [some (.ref 46), some (.int (nI N)), some (.int (nI j))] [] τ Q := by
    intro u l j τ hu hl w2 w3 cont
    have ru : lN u - lN u / 2 * 2 = lN (u % 2) := pk_lRem (a := u) (b := 2) (by omega) (by decide) (by decide)
    have rl : lN l - lN l / 2 * 2 = lN (l % 2) := pk_lRem (a := l) (b := 2) (by omega) (by decide) (by decide)
    have du : lN u / 2 = lN (u / 2) := pk_lDiv (a := u) (b := 2) (by omega) (by decide) (by decide)
    have dl : lN l / 2 = lN (l / 2) := pk_lDiv (a := l) (b := 2) (by omega) (by decide) (by decide)
    have ru2 : lN u - lN (u / 2) * 2 = lN (u % 2) := by rw [← du]; exact ru
    have rl2 : lN l - lN (l / 2) * 2 = lN (l % 2) := by rw [← dl]; exact rl
    have cu := cmp0 (a := u % 2) (by omega)
    have cl := cmp0 (a := l % 2) (by omega)
    unfold cn1 at cont
    by_cases h1 : u % 2 = 0
    · by_cases h2 : l % 2 = 0
      · rw [if_pos ⟨h1, h2⟩] at cont
        simp only [e96_7, e96_8, e96_11, e96_14, e96_15, e96_16, e96_17, e96_20, e96_21, e96_24, e96_27, e96_28, e96_29, e96_30, e96_33, e96_34, e96_35, e96_38, e96_41, e96_42, e96_45, e96_46, e96_47, e96_50, e96_53, e96_54, true_or, or_true, true_and, and_true, Option.toList, List.cons_append, List.nil_append, if_true, if_false, reduceIte, wL_get, uL_get, Nat.reduceEqDiff, sk46, w2, w3, z2, ru, rl, cu, cl, eq_true h1, eq_true h2, du, dl, ru2, rl2]
        refine cont _ ?_ ?_ ?_
        · rfl
        · simp only [true_or, or_true, true_and, and_true, Option.toList, List.cons_append, List.nil_append, if_true, if_false, reduceIte, wL_get, uL_get, Nat.reduceEqDiff]
        · simp only [true_or, or_true, true_and, and_true, Option.toList, List.cons_append, List.nil_append, if_true, if_false, reduceIte, wL_get, uL_get, Nat.reduceEqDiff]
      · rw [if_neg (fun z => h2 z.2)] at cont
        simp only [e96_7, e96_8, e96_11, e96_14, e96_15, e96_16, e96_17, e96_20, e96_21, e96_24, e96_27, e96_28, e96_29, e96_30, true_or, or_true, true_and, and_true, Option.toList, List.cons_append, List.nil_append, if_true, if_false, reduceIte, sk46, w2, w3, z2, ru, rl, cu, cl, eq_true h1, eq_false h2]
        exact cont τ rfl w2 w3
    · rw [if_neg (fun z => h1 z.1)] at cont
      simp only [e96_7, e96_8, e96_11, e96_14, e96_15, e96_16, e96_17, e96_20, e96_21, e96_24, e96_27, e96_28, e96_29, e96_30, true_or, or_true, true_and, and_true, Option.toList, List.cons_append, List.nil_append, if_true, if_false, reduceIte, sk46, w2, w3, z2, ru, cu, eq_false h1]
      exact cont τ rfl w2 w3
  have st5 : ∀ (u l j : Nat) (τ : ab_St), u < 2 ^ 60 → l < 2 ^ 60 → τ.2 46 2 = lN u → τ.2 46 3 = lN l → (∀ τ', τ'.1 = τ.1 → τ'.2 46 2 = lN (cn2 (u, l)).1 → τ'.2 46 3 = lN (cn2 (u, l)).2 → Ev d 96 107 [some (.ref 46), some (.int (nI N)), some (.int (nI j))] [] τ' Q) → Ev d 96 57 [some (.ref 46), some (.int (nI N)), some (.int (nI j))] [] τ Q := by
    intro u l j τ hu hl w2 w3 cont
    have ru : lN u - lN u / 5 * 5 = lN (u % 5) := pk_lRem (a := u) (b := 5) (by omega) (by decide) (by decide)
    have rl : lN l - lN l / 5 * 5 = lN (l % 5) := pk_lRem (a := l) (b := 5) (by omega) (by decide) (by decide)
    have du : lN u / 5 = lN (u / 5) := pk_lDiv (a := u) (b := 5) (by omega) (by decide) (by decide)
    have dl : lN l / 5 = lN (l / 5) := pk_lDiv (a := l) (b := 5) (by omega) (by decide) (by decide)
    have ru2 : lN u - lN (u / 5) * 5 = lN (u % 5) := by rw [← du]; exact ru
    have rl2 : lN l - lN (l / 5) * 5 = lN (l % 5) := by rw [← dl]; exact rl
    have cu := cmp0 (a := u % 5) (by omega)
    have cl := cmp0 (a := l % 5) (by omega)
    unfold cn2 at cont
    by_cases h1 : u % 5 = 0
    · by_cases h2 : l % 5 = 0
      · rw [if_pos ⟨h1, h2⟩] at cont
        simp only [e96_57, e96_58, e96_61, e96_64, e96_65, e96_66, e96_67, e96_70, e96_71, e96_74, e96_77, e96_78, e96_79, e96_80, e96_83, e96_84, e96_85, e96_88, e96_91, e96_92, e96_95, e96_96, e96_97, e96_100, e96_103, e96_104, true_or, or_true, true_and, and_true, Option.toList, List.cons_append, List.nil_append, if_true, if_false, reduceIte, wL_get, uL_get, Nat.reduceEqDiff, sk46, w2, w3, z5, ru, rl, cu, cl, eq_true h1, eq_true h2, du, dl, ru2, rl2]
        refine cont _ ?_ ?_ ?_
        · rfl
        · simp only [true_or, or_true, true_and, and_true, Option.toList, List.cons_append, List.nil_append, if_true, if_false, reduceIte, wL_get, uL_get, Nat.reduceEqDiff]
        · simp only [true_or, or_true, true_and, and_true, Option.toList, List.cons_append, List.nil_append, if_true, if_false, reduceIte, wL_get, uL_get, Nat.reduceEqDiff]
      · rw [if_neg (fun z => h2 z.2)] at cont
        simp only [e96_57, e96_58, e96_61, e96_64, e96_65, e96_66, e96_67, e96_70, e96_71, e96_74, e96_77, e96_78, e96_79, e96_80, true_or, or_true, true_and, and_true, Option.toList, List.cons_append, List.nil_append, if_true, if_false, reduceIte, sk46, w2, w3, z5, ru, rl, cu, cl, eq_true h1, eq_false h2]
        exact cont τ rfl w2 w3
    · rw [if_neg (fun z => h1 z.1)] at cont
      simp only [e96_57, e96_58, e96_61, e96_64, e96_65, e96_66, e96_67, e96_70, e96_71, e96_74, e96_77, e96_78, e96_79, e96_80, true_or, or_true, true_and, and_true, Option.toList, List.cons_append, List.nil_append, if_true, if_false, reduceIte, sk46, w2, w3, z5, ru, cu, eq_false h1]
      exact cont τ rfl w2 w3
  have b1 : ∀ a : Nat × Nat, a.1 < 2 ^ 60 → a.2 < 2 ^ 60 → (cn1 a).1 < 2 ^ 60 ∧ (cn1 a).2 < 2 ^ 60 := fun a h1 h2 => by unfold cn1; split <;> constructor <;> (try dsimp only) <;> omega
  have b2 : ∀ a : Nat × Nat, a.1 < 2 ^ 60 → a.2 < 2 ^ 60 → (cn2 a).1 < 2 ^ 60 ∧ (cn2 a).2 < 2 ^ 60 := fun a h1 h2 => by unfold cn2; split <;> constructor <;> (try dsimp only) <;> omega
  have key : ∀ (k j : Nat) (τ : ab_St) (a : Nat × Nat), j + k = N → τ.1 = σ.1 → a.1 < 2 ^ 60 → a.2 < 2 ^ 60 → τ.2 46 2 = lN a.1 → τ.2 46 3 = lN a.2 → cn k a = cn N (U, L) → Ev d 96 2 [some (.ref 46), some (.int (nI N)), some (.int (nI j))] [] τ Q := by
    intro k
    induction k with
    | zero =>
      intro j τ a hj e1 ha1 ha2 w2 w3 hc
      have hge : (nI N ≤ nI j) = True := eq_true (nI_le (by omega) (by omega))
      rw [e96_2]
      simp only [e96_3, e96_4, e96_113, true_or, or_true, true_and, and_true, Option.toList, List.cons_append, List.nil_append, if_true, if_false, reduceIte, hge]
      have hc : a = cn N (U, L) := hc
      exact hQ τ e1 (by rw [← hc]; exact w2) (by rw [← hc]; exact w3)
    | succ k ih =>
      intro j τ a hj e1 ha1 ha2 w2 w3 hc
      have hge : (nI N ≤ nI j) = False := eq_false (nI_ge (by omega) (by omega))
      rw [e96_2]
      simp only [e96_3, e96_4, true_or, or_true, true_and, and_true, Option.toList, List.cons_append, List.nil_append, if_true, if_false, reduceIte, hge]
      have q1 := b1 a ha1 ha2
      have q2 := b2 (cn1 a) q1.1 q1.2
      refine st2 a.1 a.2 j τ ha1 ha2 w2 w3 (fun τ1 t1 t2 t3 => ?_)
      refine st5 (cn1 a).1 (cn1 a).2 j τ1 q1.1 q1.2 t2 t3 (fun τ2 r1 r2 r3 => ?_)
      simp only [e96_107, e96_110, true_or, or_true, true_and, and_true, Option.toList, List.cons_append, List.nil_append, if_true, if_false, reduceIte, nI_1]
      exact ih (j + 1) τ2 (cn2 (cn1 a)) (by omega) (by rw [r1, t1, e1]) q2.1 q2.2 r2 r3 (by rw [← cn_f]; exact hc)
  simp only [e96_0, e96_1]
  exact key N 0 σ (U, L) (by omega) rfl hU hL v2 v3 rfl
set_option maxHeartbeats 8000000 in
/-- weight -/
theorem c95 {d N x m : Nat} {σ : ab_St} {Q : Option Value → ab_St → Prop} (hN : N ≤ 6) (hx : x ≤ 10) (hm : m < 64) : Ev (d + 1) 95 0 [some (.int (nI N)), some (.int (nI x)), some (.int (nI m)), none, none, none] [] σ Q = Q (some (.long (lN (wt x m N)))) σ := by
  have ex : (10 : Int32) - nI x = nI (10 - x) := pk_sub (a := 10) (b := x) hx
  simp only [e95_0, e95_1, e95_2, e95_3]
  refine (ev_for (fun i (a : Nat) => Ev (d + 1) 95 5 [some (.int (nI N)), some (.int (nI x)), some (.int (nI m)), some (.long (lN a)), none, some (.int (nI i))] [] σ Q) (fun j a => a * (if m.testBit j = true then 10 - x else x)) 1 N ?_).trans ?_
  · intro i hi
    generalize itn (fun j a => a * (if m.testBit j = true then 10 - x else x)) i 1 = a
    rw [e95_5]
    have hge : (nI N ≤ nI i) = False := eq_false (nI_ge hi (by omega))
    cases hb : m.testBit i
    · simp only [e95_7, e95_8, e95_11, e95_12, e95_13, e95_15, e95_18, e95_21, e95_23, e95_24, e95_25, e95_26, e95_29, e95_30, e95_31, e95_32, e95_33, e95_36, true_or, or_true, true_and, and_true, Option.toList, List.cons_append, List.nil_append, if_true, if_false, reduceIte, hge, c32 (s := m) (k := i) (by omega) (by omega), hb, bI_0, nI_l (n := x) (by omega), lN_mul, nI_1, Bool.false_eq_true]
    · simp only [e95_7, e95_8, e95_11, e95_12, e95_13, e95_15, e95_18, e95_21, e95_23, e95_24, e95_25, e95_26, e95_29, e95_30, e95_31, e95_32, e95_33, e95_36, true_or, or_true, true_and, and_true, Option.toList, List.cons_append, List.nil_append, if_true, if_false, reduceIte, hge, c32 (s := m) (k := i) (by omega) (by omega), hb, bI_0, Bool.true_eq_false, ex, nI_l (n := 10 - x) (by omega), lN_mul, nI_1]
  · rw [e95_5]
    have hge : (nI N ≤ nI N) = True := eq_true (nI_le (Nat.le_refl _) (by omega))
    simp only [e95_7, e95_8, e95_39, e95_40, true_or, or_true, true_and, and_true, Option.toList, List.cons_append, List.nil_append, if_true, if_false, reduceIte, hge]
    rfl
set_option maxHeartbeats 8000000 in
/-- isLeastBehind -/
theorem c94 {d N p m : Nat} {σ : ab_St} {Q : Option Value → ab_St → Prop} (hv : stV σ 16 f th) (hB : ∀ p, th.testBit p = true → f p < 99000) (hN : N ≤ 6) (hp : p < 6) (hm : m < 64) (hQ : ∀ τ, ch [48, 49] σ τ → Q (some (.int (bI ((lst th (pf th f (bP m) N)).testBit p)))) τ) :
    Ev (d + 2) 94 0 [some (.ref 46), some (.ref 16), some (.int (nI p)), some (.int (nI N)), some (.int (nI m)), none, none] [] σ Q := by
  obtain ⟨v1, v2, v3, v4⟩ := hv
  rw [sr16_0] at v1
  have c35' := fun Q => c35 (d := d) (c := 48) (w := 49) (c2 := 16) (w2 := 17) (σ := σ) (Q := Q) sk48 sk16 rfl rfl sk49 sk17 sn49 sn17 (by decide)
  have stO48 : stO 48 := ⟨rfl, rfl, rfl⟩
  have key : ∀ (k j : Nat) (τ : ab_St) (l6 : Option Value), j + k = N → ch [48, 49] σ τ → stV τ 48 (pf th f (bP m) j) th → Ev (d + 1 + 1) 94 11 [some (.ref 46), some (.ref 16), some (.int (nI p)), some (.int (nI N)), some (.int (nI m)), some (.int (nI j)), l6] [] τ Q := by
    intro k
    induction k with
    | zero =>
      intro j τ l6 hj hc hs
      have hjN : j = N := by omega
      subst hjN
      have hge : (nI j ≤ nI j) = True := eq_true (nI_le (Nat.le_refl _) (by omega))
      have hL := lst_lt th (pf th f (bP m) j)
      rw [e94_11]
      simp only [e94_13, e94_14, e94_70, e94_71, e94_74, e94_77, e94_78, e94_81, true_or, or_true, true_and, and_true, Option.toList, List.cons_append, List.nil_append, if_true, if_false, reduceIte, hge, sk46, sr46_1, sk48, c38 (d := d) stO48 hs, c32 (s := lst th (pf th f (bP m) j)) (k := p) (by omega) (by omega), bI_01]
      exact hQ τ hc
    | succ k ih =>
      intro j τ l6 hj hc hs
      have hge : (nI N ≤ nI j) = False := eq_false (nI_ge (by omega) (by omega))
      have hL := lst_lt th (pf th f (bP m) j)
      have c87' := fun Q => c87 (d := d) (s := lst th (pf th f (bP m) j)) (σ := τ) (Q := Q) (by omega)
      rw [e94_11]
      rcases fst_or hL with ⟨h0, h9⟩ | ⟨o, ho, hob, hof, -⟩
      · simp only [e94_13, e94_14, e94_17, e94_18, e94_21, e94_24, e94_27, e94_29, e94_31, e94_33, e94_64, e94_67, true_or, or_true, true_and, and_true, Option.toList, List.cons_append, List.nil_append, if_true, if_false, reduceIte, hge, sk46, sr46_1, sk48, c38 (d := d) stO48 hs, c87', h9, nI_1]
        refine ih (j + 1) τ _ (by omega) hc ?_
        show stV τ 48 (adv th (pf th f (bP m) j) (bP m j)) th
        rw [adv_no h9]
        exact hs
      · have hto := ((lst_bit v3 o).mp hob).1
        have w49 : τ.1 49 o = nI (pf th f (bP m) j o) := by have := hs.1 o hto; rw [sr48_0] at this; exact this
        have hlt := pf_le (th := th) (f := f) (b := bP m) (bP_le m)
        have nxt : ∀ l6, Ev (d + 1 + 1) 94 11 [some (.ref 46), some (.ref 16), some (.int (nI p)), some (.int (nI N)), some (.int (nI m)), some (.int (nI (j + 1))), l6] [] (ab_wI τ 49 (upd (τ.1 49) o (nI (pf th f (bP m) j o + bP m j)))) Q := by
          intro l6
          refine ih (j + 1) _ l6 (by omega) (ch_w hc (by decide)) ⟨fun q hq => ?_, ?_, v3, fun q hq => ?_⟩
          · show (ab_wI τ 49 _).1 (ab_r 48 0) q = nI (adv th (pf th f (bP m) j) (bP m j) q)
            rw [sr48_0, wI_eq, adv_at ho hof]
            by_cases e : q = o
            · rw [e, upd_eq, if_pos rfl]
            · rw [upd_ne _ _ e, if_neg e]
              have := hs.1 q hq
              rw [sr48_0] at this
              exact this
          · rw [wI_ne _ _ (by decide)]; exact hs.2.1
          · have := hlt (j + 1) q
            have := hB q hq
            omega
        cases hb : m.testBit j
        · have hn : bP m j = 1 := by unfold bP; rw [hb, if_neg (by decide)]
          rw [hn] at nxt
          simp only [e94_13, e94_14, e94_17, e94_18, e94_21, e94_24, e94_27, e94_29, e94_31, e94_33, e94_36, e94_37, e94_40, e94_43, e94_45, e94_46, e94_47, e94_49, e94_51, e94_54, e94_57, e94_58, e94_61, e94_62, e94_63, e94_64, e94_67, true_or, or_true, true_and, and_true, Option.toList, List.cons_append, List.nil_append, if_true, if_false, reduceIte, hge, sk46, sr46_1, sk48, sr48_0, sk49, sn49, c38 (d := d) stO48 hs, c87', hof, m9_ne (n := o) (by omega), in_eq (j := o) (n := 6) ho (by decide), nI_clamp (n := o) (by omega), w49, c32 (s := m) (k := j) (by omega) (by omega), hb, bI_0, nI_1]
          exact nxt _
        · have hn : bP m j = 2 := by unfold bP; rw [hb, if_pos rfl]
          rw [hn] at nxt
          have e2 : nI (pf th f (bP m) j o) + 2 = nI (pf th f (bP m) j o + 2) := nI_add _ 2
          simp only [e94_13, e94_14, e94_17, e94_18, e94_21, e94_24, e94_27, e94_29, e94_31, e94_33, e94_36, e94_37, e94_40, e94_43, e94_45, e94_46, e94_47, e94_49, e94_51, e94_54, e94_57, e94_58, e94_61, e94_62, e94_63, e94_64, e94_67, true_or, or_true, true_and, and_true, Option.toList, List.cons_append, List.nil_append, if_true, if_false, reduceIte, hge, sk46, sr46_1, sk48, sr48_0, sk49, sn49, c38 (d := d) stO48 hs, c87', hof, m9_ne (n := o) (by omega), in_eq (j := o) (n := 6) ho (by decide), nI_clamp (n := o) (by omega), w49, c32 (s := m) (k := j) (by omega) (by omega), hb, bI_0, Bool.true_eq_false, e2, nI_1]
          exact nxt _
  simp only [e94_0, e94_1, e94_4, e94_5, e94_8, e94_9, true_or, or_true, true_and, and_true, Option.toList, List.cons_append, List.nil_append, if_true, if_false, reduceIte, sk46, sr46_1, sk48, c35']
  refine key N 0 _ none (by omega) (ch_w (ch_w (ch_rf _ _) (by decide)) (by decide)) ⟨fun q hq => ?_, ?_, v3, fun q hq => v4 q hq⟩
  · rw [sr48_0, wI_ne _ _ (by decide), wI_eq]
    have := bit_lt (n := 6) v3 hq
    rw [cpN_lt this]
    exact v1 q hq
  · rw [wI_eq]; simp only [wI_get, upd_get, Nat.reduceEqDiff, reduceIte, if_true, if_false]; exact v2
theorem Fc_le {p N x m : Nat} (hN : N ≤ 6) (hx : x ≤ 10) : Fc th f p N x m ≤ 1000000 := by
  have h1 := wt_le (m := m) hx N
  have h2 : 10 ^ N ≤ 1000000 := (Nat.pow_le_pow_right (by decide) hN : 10 ^ N ≤ 10 ^ 6)
  unfold Fc
  split <;> omega
theorem two_le6 {N : Nat} (hN : N ≤ 6) : 2 ^ N ≤ 64 := (Nat.pow_le_pow_right (by decide) hN : 2 ^ N ≤ 2 ^ 6)
theorem sFc_le {p N x k : Nat} (hN : N ≤ 6) (hx : x ≤ 10) (hk : k ≤ 64) : sN (Fc th f p N x) k ≤ 64000000 := by
  have h1 := sN_le (F := Fc th f p N x) (B := 1000000) k (fun i _ => Fc_le hN hx)
  omega
set_option maxHeartbeats 8000000 in
/-- weighTurns -/
theorem c93 {d N p x : Nat} {σ : ab_St} {Q : Option Value → ab_St → Prop} (hv : stV σ 16 f th) (hB : ∀ p, th.testBit p = true → f p < 99000) (hN : N ≤ 6) (hp : p < 6) (hx : x ≤ 10)
    (hQ : ∀ τ, (∀ c, c ∉ [48, 49] → τ.1 c = σ.1 c) → τ.2 46 2 = lN (cn N (sN (Fc th f p N x) (2 ^ N), 10 ^ N)).1 → τ.2 46 3 = lN (cn N (sN (Fc th f p N x) (2 ^ N), 10 ^ N)).2 → Q none τ) :
    Ev (d + 3) 93 0 [some (.ref 46), some (.ref 16), some (.int (nI p)), some (.int (nI N)), some (.int (nI x)), none] [] σ Q := by
  have h64 := two_le6 hN
  have key : ∀ (k m : Nat) (τ : ab_St), m + k = 2 ^ N → (∀ c, c ∉ [48, 49] → τ.1 c = σ.1 c) → τ.2 46 2 = lN (sN (Fc th f p N x) m) → Ev (d + 2 + 1) 93 8 [some (.ref 46), some (.ref 16), some (.int (nI p)), some (.int (nI N)), some (.int (nI x)), some (.int (nI m))] [] τ Q := by
    intro k
    induction k with
    | zero =>
      intro m τ hm hc hu
      have hm2 : m = 2 ^ N := by omega
      subst hm2
      have hge : (nI (2 ^ N) ≤ nI (2 ^ N)) = True := eq_true (nI_le (Nat.le_refl _) (by omega))
      have hpl := p10_le (j := N) (by omega)
      rw [e93_8]
      simp only [e93_10, e93_11, e93_12, e93_13, e93_51, e93_52, e93_55, e93_56, e93_57, e93_58, e93_61, e93_62, e93_63, true_or, or_true, true_and, and_true, Option.toList, List.cons_append, List.nil_append, if_true, if_false, reduceIte, nI_shl (k := N) (by omega), hge, in_eq (j := N) (n := 9) (by omega) (by decide), nI_clamp (n := N) (by omega), pw_eq (j := N) (by omega), nI_l (n := 10 ^ N) (by omega), sk46]
      refine c96 (U := sN (Fc th f p N x) (2 ^ N)) (L := 10 ^ N) hN (by have := sFc_le (th := th) (f := f) (p := p) (N := N) (x := x) (k := 2 ^ N) hN hx h64; omega) (by omega) (by simp only [true_or, or_true, true_and, and_true, Option.toList, List.cons_append, List.nil_append, if_true, if_false, reduceIte, wL_get, uL_get, Nat.reduceEqDiff]; exact hu) (by simp only [true_or, or_true, true_and, and_true, Option.toList, List.cons_append, List.nil_append, if_true, if_false, reduceIte, wL_get, uL_get, Nat.reduceEqDiff]) (fun υ e1 e2 e3 => ?_)
      simp only [e93_66, true_or, or_true, true_and, and_true, Option.toList, List.cons_append, List.nil_append, if_true, if_false, reduceIte]
      exact hQ υ (fun c hcc => by rw [e1]; exact hc c hcc) e2 e3
    | succ k ih =>
      intro m τ hm hc hu
      have hm2 : m < 2 ^ N := by omega
      have hge : (nI (2 ^ N) ≤ nI m) = False := eq_false (nI_ge hm2 (by omega))
      have hv' : stV τ 16 f th := by
        unfold stV
        rw [sr16_0, hc 17 (by decide), hc 16 (by decide)]
        have := hv
        unfold stV at this
        rw [sr16_0] at this
        exact this
      rw [e93_8]
      simp only [e93_10, e93_11, e93_12, e93_13, e93_16, e93_17, e93_18, e93_19, e93_20, e93_22, true_or, or_true, true_and, and_true, Option.toList, List.cons_append, List.nil_append, if_true, if_false, reduceIte, nI_shl (k := N) (by omega), hge, sk46]
      refine c94 (d := d) hv' hB hN hp (by omega) (fun υ cυ => ?_)
      have hcu : ∀ c, c ∉ [48, 49] → υ.1 c = σ.1 c := fun c hcc => (cυ.1 c hcc).trans (hc c hcc)
      have hFs : sN (Fc th f p N x) (m + 1) = sN (Fc th f p N x) m + Fc th f p N x m := rfl
      have hFm : Fc th f p N x m = if (lst th (pf th f (bP m) N)).testBit p = true then wt x m N else 0 := rfl
      have u2 : υ.2 46 2 = lN (sN (Fc th f p N x) m) := by rw [cυ.2]; exact hu
      cases hb : (lst th (pf th f (bP m) N)).testBit p
      · rw [hb, if_neg (by decide)] at hFm
        simp only [e93_25, e93_45, e93_48, true_or, or_true, true_and, and_true, Option.toList, List.cons_append, List.nil_append, if_true, if_false, reduceIte, bI_0, nI_1]
        refine ih (m + 1) υ (by omega) hcu ?_
        rw [hFs, hFm]
        exact u2
      · rw [hb, if_pos rfl] at hFm
        simp only [e93_25, e93_28, e93_29, e93_30, e93_33, e93_34, e93_36, e93_38, e93_41, e93_42, e93_45, e93_48, true_or, or_true, true_and, and_true, Option.toList, List.cons_append, List.nil_append, if_true, if_false, reduceIte, bI_0, Bool.true_eq_false, sk46, u2, c95 (d := d + 1) (N := N) (x := x) (m := m) hN hx (by omega), lN_add, nI_1]
        refine ih (m + 1) _ (by omega) hcu ?_
        rw [hFs, hFm]
        simp only [true_or, or_true, true_and, and_true, Option.toList, List.cons_append, List.nil_append, if_true, if_false, reduceIte, wL_get, uL_get]
  simp only [e93_0, e93_1, e93_2, e93_5, e93_6, true_or, or_true, true_and, and_true, Option.toList, List.cons_append, List.nil_append, if_true, if_false, reduceIte, sk46]
  exact key (2 ^ N) 0 _ (by omega) (fun _ _ => rfl) (by simp only [true_or, or_true, true_and, and_true, Option.toList, List.cons_append, List.nil_append, if_true, if_false, reduceIte, wL_get, uL_get]; rfl)
/-- divisor -/
theorem c146 {d : Nat} {l0 l1 l2 l3 : Option Value} {σ : ab_St} {Q : Option Value → ab_St → Prop} : ∀ (b a : Nat) (l8 l9 : Option Value), a < 2 ^ 60 → b < 2 ^ 60 → Ev d 146 6 [l0, l1, l2, l3, some (.long (lN a)), none, some (.long (lN b)), none, l8, l9] [] σ Q = Q (some (.long (lN (Nat.gcd a b)))) σ := by
  intro b
  induction b using Nat.strongRecOn with
  | ind b ih =>
    intro a l8 l9 ha hb
    have cb := cmp0 (a := b) (by omega)
    rw [e146_6]
    by_cases h0 : b = 0
    · subst h0
      simp only [e146_8, e146_9, e146_10, e146_31, e146_33, true_or, or_true, true_and, and_true, Option.toList, List.cons_append, List.nil_append, if_true, if_false, reduceIte, cb, Nat.gcd_zero_right]
    · have zb : (¬ lN b = 0) = True := eq_true (fun e => h0 ((pk_lEQ (a := b) (b := 0) (by omega) (by decide)).mp e))
      have rm : lN a - lN a / lN b * lN b = lN (a % b) := pk_lRem (by omega) (by omega) (by omega)
      have hlt := Nat.mod_lt a (Nat.pos_of_ne_zero h0)
      simp only [e146_8, e146_9, e146_10, e146_13, e146_15, e146_17, e146_18, e146_20, e146_22, e146_24, e146_26, e146_28, true_or, or_true, true_and, and_true, Option.toList, List.cons_append, List.nil_append, if_true, if_false, reduceIte, cb, eq_false h0, zb, rm]
      rw [ih (a % b) hlt b _ _ hb (by omega), Nat.gcd_comm a b, Nat.gcd_rec b a, Nat.gcd_comm]
set_option maxHeartbeats 8000000 in
/-- turn -/
theorem c145 {d P c : Nat} {g : Nat → Nat} {τ : ab_St} {Q : Option Value → ab_St → Prop} (hv : mlV τ P g th) (h65 : ∀ p, p < P → τ.1 65 p = nI (g p)) (hQ : ∀ τ', (∀ k, k ≠ 65 → τ'.1 k = τ.1 k) → (∀ p, p < P → τ'.1 65 p = nI (adv th g c p)) → Q none τ') :
    Ev (d + 2) 145 0 [some (.ref 50), some (.int (nI c)), none, none] [] τ Q := by
  obtain ⟨m1, m2, m3, m4, m5, m6⟩ := id hv
  have hL := lst_ltP (g := g) m5 m4
  have hL64 := lst_lt th g
  simp only [e145_0, e145_1, e145_4, e145_5, e145_6, true_or, or_true, true_and, and_true, Option.toList, List.cons_append, List.nil_append, if_true, if_false, reduceIte, sk50, c114 (d := d) hv]
  rcases fst_or hL64 with ⟨h0, h9⟩ | ⟨o, ho, hob, hof, hbelow⟩
  · have key : ∀ (k i : Nat), i + k = P → Ev (d + 1 + 1) 145 7 [some (.ref 50), some (.int (nI c)), some (.int (nI (lst th g))), some (.int (nI i))] [] τ Q := by
      intro k
      induction k with
      | zero =>
        intro i hi
        have hge : (nI P ≤ nI i) = True := eq_true (nI_le (by omega) (by omega))
        rw [e145_7]
        simp only [e145_8, e145_9, e145_12, e145_29, e145_30, e145_31, e145_34, e145_37, e145_38, e145_41, e145_42, e145_43, e145_44, e145_45, e145_46, e145_47, true_or, or_true, true_and, and_true, Option.toList, List.cons_append, List.nil_append, if_true, if_false, reduceIte, sk50, m1, hge]
        exact hQ τ (fun _ _ => rfl) (fun p hp => by rw [adv_no h9]; exact h65 p hp)
      | succ k ih =>
        intro i hi
        have hge : (nI P ≤ nI i) = False := eq_false (nI_ge (by omega) (by omega))
        have hb : (lst th g).testBit i = false := by rw [h0, Nat.zero_testBit]
        rw [e145_7]
        simp only [e145_8, e145_9, e145_12, e145_15, e145_16, e145_17, e145_20, e145_23, e145_26, true_or, or_true, true_and, and_true, Option.toList, List.cons_append, List.nil_append, if_true, if_false, reduceIte, sk50, m1, hge, c113 (s := lst th g) (k := i) (by omega) (by omega), hb, bI_0, nI_1]
        exact ih (i + 1) (by omega)
    exact key P 0 (by omega)
  · have hoP := bit_lt hL hob
    have key : ∀ (k i : Nat), i + k = o → Ev (d + 1 + 1) 145 7 [some (.ref 50), some (.int (nI c)), some (.int (nI (lst th g))), some (.int (nI i))] [] τ Q := by
      intro k
      induction k with
      | zero =>
        intro i hi
        have hio : i = o := by omega
        subst hio
        have hge : (nI P ≤ nI i) = False := eq_false (nI_ge hoP (by omega))
        rw [e145_7]
        simp only [e145_8, e145_9, e145_12, e145_15, e145_16, e145_17, e145_20, e145_29, e145_30, e145_31, e145_34, e145_37, e145_38, e145_41, e145_42, e145_43, e145_44, e145_45, e145_46, e145_47, true_or, or_true, true_and, and_true, Option.toList, List.cons_append, List.nil_append, if_true, if_false, reduceIte, sk50, sr50_28, sk65, sn65, m1, hge, c113 (s := lst th g) (k := i) (by omega) (by omega), hob, bI_0, Bool.true_eq_false, in_eq (j := i) (n := 6) ho (by decide), nI_clamp (n := i) (by omega), h65 i hoP, nI_add]
        refine hQ _ (fun k hk => wI_ne _ _ hk) (fun p hp => ?_)
        rw [wI_eq, adv_at ho hof]
        by_cases e : p = i
        · rw [e, upd_eq, if_pos rfl]
        · rw [upd_ne _ _ e, if_neg e]; exact h65 p hp
      | succ k ih =>
        intro i hi
        have hge : (nI P ≤ nI i) = False := eq_false (nI_ge (by omega) (by omega))
        have hb := hbelow i (by omega)
        rw [e145_7]
        simp only [e145_8, e145_9, e145_12, e145_15, e145_16, e145_17, e145_20, e145_23, e145_26, true_or, or_true, true_and, and_true, Option.toList, List.cons_append, List.nil_append, if_true, if_false, reduceIte, sk50, m1, hge, c113 (s := lst th g) (k := i) (by omega) (by omega), hb, bI_0, nI_1]
        exact ih (i + 1) (by omega)
    exact key o 0 (by omega)
end Chance
