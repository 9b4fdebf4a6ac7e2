/-! THE MODEL'S METHODS THAT WRITE -/
theorem itn_cp (g h : Nat → Int32) (n : Nat) : itn (fun i k => upd k i (h i)) n g = cpN n h g := by
  induction n with
  | zero => funext j; simp [itn, cpN]
  | succ n ih =>
    show upd (itn (fun i k => upd k i (h i)) n g) n (h n) = _
    rw [ih]
    funext j
    unfold upd cpN
    by_cases e : j = n
    · subst e; simp
    · by_cases h2 : j < n
      · simp only [if_neg e, if_pos h2, if_pos (show j < n + 1 by omega)]
      · simp only [if_neg e, if_neg h2, if_neg (show ¬ j < n + 1 by omega)]
/-- behind begin -/
def bgn (σ : ab_St) (P : Nat) : ab_St := ab_wI (ab_wI σ 65 (cpN P (σ.1 52) (σ.1 65))) 50 (upd (upd (σ.1 50) 29 (σ.1 50 13)) 30 (σ.1 50 14))
set_option maxHeartbeats 2000000 in
/-- begin -/
theorem c112 {d P : Nat} {σ : ab_St} {Q : Option Value → ab_St → Prop} (v : σ.1 50 5 = nI P) (hP : P ≤ 6) : Ev d 112 0 [some (.ref 50), none] [] σ Q = Q none (bgn σ P) := by
  simp only [e112_0, e112_1]
  refine (Eq.trans (congrArg (fun τ => Ev d 112 2 [some (.ref 50), some (.int 0)] [] τ Q) (wI_self σ 65).symm) ?_)
  refine (ev_for (fun i (g : Nat → Int32) => Ev d 112 2 [some (.ref 50), some (.int (nI i))] [] (ab_wI σ 65 g) Q) (fun i k => upd k i (σ.1 52 i)) (σ.1 65) P ?_).trans ?_
  · intro i hi
    generalize itn (fun i k => upd k i (σ.1 52 i)) i (σ.1 65) = g
    rw [e112_2]
    have h6 : ¬ nI P ≤ nI i := nI_ge hi (by omega)
    simp only [e112_0, e112_1, e112_3, e112_4, e112_7, e112_10, e112_11, e112_14, e112_15, e112_16, e112_19, e112_20, e112_21, e112_22, e112_25, e112_28, e112_29, e112_30, e112_33, e112_36, e112_37, e112_38, e112_41, e112_44, true_or, or_true, true_and, and_true, Option.toList, List.cons_append, List.nil_append, if_true, if_false, reduceIte, sk50, sk52, sn52, sk65, sn65, sr50_28, sr50_6, v, h6, in_eq (j := i) (n := 6) (by omega) (by decide), nI_clamp (n := i) (by omega), nI_1, wI_eq, wI_wI, wI_ne σ (c := 65) (k := 50) g (by decide), wI_ne σ (c := 65) (k := 52) g (by decide)]
  · rw [e112_2]
    simp only [itn_cp]
    simp only [e112_0, e112_1, e112_3, e112_4, e112_7, e112_10, e112_11, e112_14, e112_15, e112_16, e112_19, e112_20, e112_21, e112_22, e112_25, e112_28, e112_29, e112_30, e112_33, e112_36, e112_37, e112_38, e112_41, e112_44, true_or, or_true, true_and, and_true, Option.toList, List.cons_append, List.nil_append, if_true, if_false, reduceIte, sk50, wI_ne σ (c := 65) (k := 50) _ (by decide), v, wI_eq, wI_wI]
    rw [if_pos (nI_le (Nat.le_refl _) (by omega))]
    simp only [upd, bgn]
    rfl
/-- sayIt -/
theorem c133 {d s : Nat} {t : gT} {sd x : Nat} {σ : ab_St} {Q : Option Value → ab_St → Prop} (ht : tok t) (tvv : mdV σ t) (hs : s < tS t) (hx : σ.1 65 (tw t s) = nI x) (hsd : σ.1 50 29 = nI sd) (hsd8 : sd < 256) :
    Ev d 133 0 [some (.ref 50), some (.int (nI s))] [] σ Q = Q none (ab_wI (ab_wI σ 65 (upd (σ.1 65) (tw t s) (nI (x + tz t s)))) 50 (upd (upd (σ.1 50) 29 (nI (sd ||| 2 ^ s))) 30 (nI s))) := by
  obtain ⟨t1, t2, t3⟩ := ht
  obtain ⟨w1, w2, w3⟩ := tvv
  have hw := (t3 s hs).1
  have n1 : ∀ g, (ab_wI σ 50 g).1 53 = σ.1 53 := fun g => wI_ne σ g (by decide)
  have n2 : ∀ g, (ab_wI σ 50 g).1 54 = σ.1 54 := fun g => wI_ne σ g (by decide)
  have n3 : ∀ g, (ab_wI σ 50 g).1 65 = σ.1 65 := fun g => wI_ne σ g (by decide)
  have n4 : ∀ g h, ab_wI (ab_wI σ 50 g) 65 h = ab_wI (ab_wI σ 65 h) 50 g := fun g h => by
    refine Prod.ext (funext fun k => ?_) rfl
    simp only [ab_wI]
    by_cases e1 : k = 65
    · subst e1; simp
    · by_cases e2 : k = 50
      · subst e2; simp
      · simp [e1, e2]
  simp only [e133_0, e133_1, e133_2, e133_5, e133_6, e133_7, e133_8, e133_9, e133_12, e133_13, e133_16, e133_17, e133_20, e133_21, e133_22, e133_23, e133_24, e133_25, e133_28, e133_29, e133_30, e133_31, e133_32, e133_33, e133_34, e133_37, true_or, or_true, true_and, and_true, Option.toList, List.cons_append, List.nil_append, if_true, if_false, reduceIte, sk50, sk53, sn53, sk54, sn54, sk65, sn65, sr50_28, sr50_9, sr50_10, hsd, nI_set (a := sd) (k := s) (by omega) (by omega), n1, n2, n3, in_eq (j := s) (n := 8) (by omega) (by decide), nI_clamp (n := s) (by omega), (w3 s hs).1, (w3 s hs).2.1, in_eq (j := tw t s) (n := 6) (by omega) (by decide), nI_clamp (n := tw t s) (by omega), hx, nI_add, n4, wI_eq, wI_wI]
/-- a page laid into a row -/
def pgL (g : Nat → Int32) (a : Nat) (w : Nat → Int32) (x y z : Int32) : Nat → Int32 := upd (upd (upd (itn (fun i k => upd k (a + i) (w i)) 6 g) (a + 6) x) (a + 7) y) (a + 8) z
theorem lay_at (g w : Nat → Int32) (a n j : Nat) : itn (fun i k => upd k (a + i) (w i)) n g j = if a ≤ j ∧ j < a + n then w (j - a) else g j := by
  induction n with
  | zero => simp [itn]; intro h1 h2; omega
  | succ n ih =>
    show (if j = a + n then w n else itn (fun i k => upd k (a + i) (w i)) n g j) = _
    by_cases e : j = a + n
    · subst e
      rw [if_pos rfl, if_pos (by omega), show a + n - a = n by omega]
    · rw [if_neg e, ih]
      by_cases h : a ≤ j ∧ j < a + n
      · rw [if_pos h, if_pos (by omega)]
      · rw [if_neg h, if_neg (by omega)]
theorem pgL_w {g w : Nat → Int32} {a p : Nat} {x y z : Int32} (hp : p < 6) : pgL g a w x y z (a + p) = w p := by
  unfold pgL
  simp only [upd, lay_at]
  rw [if_neg (by omega), if_neg (by omega), if_neg (by omega), if_pos (by omega), show a + p - a = p by omega]
theorem pgL_6 {g w : Nat → Int32} {a : Nat} {x y z : Int32} : pgL g a w x y z (a + 6) = x := by
  unfold pgL
  simp only [upd]
  rw [if_neg (by omega), if_neg (by omega), if_pos trivial]
theorem pgL_7 {g w : Nat → Int32} {a : Nat} {x y z : Int32} : pgL g a w x y z (a + 7) = y := by
  unfold pgL
  simp only [upd]
  rw [if_neg (by omega), if_pos trivial]
theorem pgL_8 {g w : Nat → Int32} {a : Nat} {x y z : Int32} : pgL g a w x y z (a + 8) = z := by
  unfold pgL
  simp only [upd]
  rw [if_pos trivial]
theorem pgL_o {g w : Nat → Int32} {a j : Nat} {x y z : Int32} (h : j < a ∨ a + 9 ≤ j) : pgL g a w x y z j = g j := by
  unfold pgL
  simp only [upd, lay_at]
  rw [if_neg (by omega), if_neg (by omega), if_neg (by omega), if_neg (by omega)]
set_option maxHeartbeats 2000000 in
/-- layPage -/
theorem c125 {d c a n : Nat} {σ : ab_St} {Q : Option Value → ab_St → Prop} (k1 : ab_k c = 100) (k2 : ab_n c = n) (ha : a + 9 ≤ n) (hn : n < 1000) (hc : 50 ≠ c) (hc2 : 52 ≠ c) : Ev d 125 0 [some (.ref 50), some (.ref c), some (.int (nI a)), none] [] σ Q = Q none (ab_wI σ c (pgL (σ.1 c) a (σ.1 52) (σ.1 50 7) (σ.1 50 13) (σ.1 50 14))) := by
  simp only [e125_0, e125_1]
  refine (Eq.trans (congrArg (fun τ => Ev d 125 2 [some (.ref 50), some (.ref c), some (.int (nI a)), some (.int 0)] [] τ Q) (wI_self σ c).symm) ?_)
  refine (ev_for (fun i (g : Nat → Int32) => Ev d 125 2 [some (.ref 50), some (.ref c), some (.int (nI a)), some (.int (nI i))] [] (ab_wI σ c g) Q) (fun i k => upd k (a + i) (σ.1 52 i)) (σ.1 c) 6 ?_).trans ?_
  · intro i hi
    generalize itn (fun i k => upd k (a + i) (σ.1 52 i)) i (σ.1 c) = g
    rw [e125_2]
    have h6 : ¬ (6 : Int32) ≤ nI i := nI_ge (a := i) (b := 6) hi (by decide)
    simp only [e125_0, e125_1, e125_3, e125_5, e125_8, e125_9, e125_10, e125_11, e125_12, e125_13, e125_16, e125_17, e125_18, e125_19, e125_22, e125_25, e125_26, e125_27, e125_29, e125_30, e125_31, e125_34, e125_35, e125_36, e125_37, e125_39, e125_40, e125_41, e125_44, e125_45, e125_46, e125_47, e125_49, e125_50, e125_51, e125_54, e125_55, true_or, or_true, true_and, and_true, Option.toList, List.cons_append, List.nil_append, if_true, if_false, reduceIte, sk50, sk52, sn52, k1, k2, sr50_6, h6, nI_add, in_eq (j := i) (n := 6) (by omega) (by decide), nI_clamp (n := i) (by omega), in_eq (j := a + i) (n := n) (by omega) (by omega), nI_clamp (n := a + i) (by omega), nI_1, wI_eq, wI_wI, wI_ne σ g hc, wI_ne σ g hc2]
  · rw [e125_2]
    generalize hg : itn (fun i k => upd k (a + i) (σ.1 52 i)) 6 (σ.1 c) = g
    have e6 : nI a + 6 = nI (a + 6) := nI_add a 6
    have e7 : nI a + 7 = nI (a + 7) := nI_add a 7
    have e8 : nI a + 8 = nI (a + 8) := nI_add a 8
    simp only [e125_0, e125_1, e125_3, e125_5, e125_8, e125_9, e125_10, e125_11, e125_12, e125_13, e125_16, e125_17, e125_18, e125_19, e125_22, e125_25, e125_26, e125_27, e125_29, e125_30, e125_31, e125_34, e125_35, e125_36, e125_37, e125_39, e125_40, e125_41, e125_44, e125_45, e125_46, e125_47, e125_49, e125_50, e125_51, e125_54, e125_55, true_or, or_true, true_and, and_true, Option.toList, List.cons_append, List.nil_append, if_true, if_false, reduceIte, sk50, k1, k2, e6, e7, e8, in_eq (j := a + 6) (n := n) (by omega) (by omega), nI_clamp (n := a + 6) (by omega), in_eq (j := a + 7) (n := n) (by omega) (by omega), nI_clamp (n := a + 7) (by omega), in_eq (j := a + 8) (n := n) (by omega) (by omega), nI_clamp (n := a + 8) (by omega), wI_eq, wI_wI, wI_ne σ _ hc]
    rw [if_pos (show (6 : Int32) ≤ nI 6 from nI_le (Nat.le_refl 6) (by decide)), ← hg]
    rfl
set_option maxHeartbeats 2000000 in
/-- takePage -/
theorem c131 {d c a n : Nat} {σ : ab_St} {Q : Option Value → ab_St → Prop} (k1 : ab_k c = 100) (k2 : ab_n c = n) (ha : a + 9 ≤ n) (hn : n < 1000) (hc : c ≠ 50) (hc2 : c ≠ 52) : Ev d 131 0 [some (.ref 50), some (.ref c), some (.int (nI a)), none] [] σ Q = Q none (ab_wI (ab_wI σ 52 (cpN 6 (fun j => σ.1 c (a + j)) (σ.1 52))) 50 (upd (upd (upd (σ.1 50) 7 (σ.1 c (a + 6))) 13 (σ.1 c (a + 7))) 14 (σ.1 c (a + 8)))) := by
  simp only [e131_0, e131_1]
  refine (Eq.trans (congrArg (fun τ => Ev d 131 2 [some (.ref 50), some (.ref c), some (.int (nI a)), some (.int 0)] [] τ Q) (wI_self σ 52).symm) ?_)
  refine (ev_for (fun i (g : Nat → Int32) => Ev d 131 2 [some (.ref 50), some (.ref c), some (.int (nI a)), some (.int (nI i))] [] (ab_wI σ 52 g) Q) (fun i k => upd k i (σ.1 c (a + i))) (σ.1 52) 6 ?_).trans ?_
  · intro i hi
    generalize itn (fun i k => upd k i (σ.1 c (a + i))) i (σ.1 52) = g
    rw [e131_2]
    have h6 : ¬ (6 : Int32) ≤ nI i := nI_ge (a := i) (b := 6) hi (by decide)
    simp only [e131_0, e131_1, e131_3, e131_5, e131_8, e131_9, e131_12, e131_13, e131_14, e131_15, e131_16, e131_17, e131_18, e131_19, e131_22, e131_25, e131_26, e131_27, e131_28, e131_30, e131_31, e131_32, e131_35, e131_36, e131_37, e131_38, e131_40, e131_41, e131_42, e131_45, e131_46, e131_47, e131_48, e131_50, e131_51, e131_52, e131_55, true_or, or_true, true_and, and_true, Option.toList, List.cons_append, List.nil_append, if_true, if_false, reduceIte, sk50, sk52, sn52, k1, k2, sr50_6, h6, nI_add, in_eq (j := i) (n := 6) (by omega) (by decide), nI_clamp (n := i) (by omega), in_eq (j := a + i) (n := n) (by omega) (by omega), nI_clamp (n := a + i) (by omega), nI_1, wI_eq, wI_wI, wI_ne σ g hc2]
  · rw [e131_2]
    rw [itn_cp _ (fun i => σ.1 c (a + i))]
    have e6 : nI a + 6 = nI (a + 6) := nI_add a 6
    have e7 : nI a + 7 = nI (a + 7) := nI_add a 7
    have e8 : nI a + 8 = nI (a + 8) := nI_add a 8
    have n1 : ∀ g, (ab_wI σ 52 g).1 50 = σ.1 50 := fun g => wI_ne σ g (by decide)
    have n2 : ∀ g, (ab_wI σ 52 g).1 c = σ.1 c := fun g => wI_ne σ g hc2
    have n3 : ∀ τ g, (ab_wI τ 50 g).1 c = τ.1 c := fun τ g => wI_ne τ g hc
    simp only [e131_0, e131_1, e131_3, e131_5, e131_8, e131_9, e131_12, e131_13, e131_14, e131_15, e131_16, e131_17, e131_18, e131_19, e131_22, e131_25, e131_26, e131_27, e131_28, e131_30, e131_31, e131_32, e131_35, e131_36, e131_37, e131_38, e131_40, e131_41, e131_42, e131_45, e131_46, e131_47, e131_48, e131_50, e131_51, e131_52, e131_55, true_or, or_true, true_and, and_true, Option.toList, List.cons_append, List.nil_append, if_true, if_false, reduceIte, sk50, k1, k2, e6, e7, e8, in_eq (j := a + 6) (n := n) (by omega) (by omega), nI_clamp (n := a + 6) (by omega), in_eq (j := a + 7) (n := n) (by omega) (by omega), nI_clamp (n := a + 7) (by omega), in_eq (j := a + 8) (n := n) (by omega) (by omega), nI_clamp (n := a + 8) (by omega), wI_eq, wI_wI, n1, n2, n3]
    rw [if_pos (show (6 : Int32) ≤ nI 6 from nI_le (Nat.le_refl 6) (by decide))]
theorem itn_sh (g : Nat → Int32) (n : Nat) : itn (fun i k => upd k i (k (i + 16))) n g = fun j => if j < n then g (j + 16) else g j := by
  induction n with
  | zero => funext j; simp [itn]
  | succ n ih =>
    show upd (itn (fun i k => upd k i (k (i + 16))) n g) n (itn (fun i k => upd k i (k (i + 16))) n g (n + 16)) = _
    rw [ih]
    funext j
    simp only [upd]
    by_cases e : j = n
    · subst e; simp; intro h; omega
    · by_cases h2 : j < n
      · simp only [if_neg e, if_pos h2, if_pos (show j < n + 1 by omega)]
      · simp only [if_neg e, if_neg h2, if_neg (show ¬ j < n + 1 by omega)]
/-- the book and the count behind note -/
def ntB (g : Nat → Int32) (ac : Nat) : Nat → Int32 := if ac = 12 then (fun j => if j < 176 then g (j + 16) else g j) else g
def ntC (ac : Nat) : Nat := if ac = 12 then 11 else ac
set_option maxHeartbeats 4000000 in
/-- note -/
theorem c124 {d ac : Nat} {σ : ab_St} {Q : Option Value → ab_St → Prop} (v : σ.1 50 25 = nI ac) (hac : ac ≤ 12) : Ev (d + 1) 124 0 [some (.ref 50), none] [] σ Q = Q none (ab_wI (ab_wI σ 62 (pgL (ntB (σ.1 62) ac) (16 * ntC ac) (σ.1 52) (σ.1 50 7) (σ.1 50 13) (σ.1 50 14))) 50 (upd (σ.1 50) 25 (nI (ntC ac + 1)))) := by
  have e16 : ∀ k, (16 : Int32) * nI k = nI (16 * k) := fun k => pk_mul 16 k
  have upd2 : ∀ (g : Nat → Int32) (k : Nat) (x y : Int32), upd (upd g k x) k y = upd g k y := fun g k x y => by
    funext j
    unfold upd
    split <;> rfl
  by_cases h12 : ac = 12
  · subst h12
    simp only [e124_0, e124_1, e124_4, e124_6, e124_9, e124_10, sk50, v, true_or, or_true, true_and, and_true, Option.toList, List.cons_append, List.nil_append, if_true, if_false, reduceIte, show nI 12 = (12 : Int32) from rfl]
    refine (Eq.trans (congrArg (fun τ => Ev (d + 1) 124 11 [some (.ref 50), some (.int 0)] [] τ Q) (wI_self σ 62).symm) ?_)
    refine (ev_for (fun i (g : Nat → Int32) => Ev (d + 1) 124 11 [some (.ref 50), some (.int (nI i))] [] (ab_wI σ 62 g) Q) (fun i k => upd k i (k (i + 16))) (σ.1 62) 176 ?_).trans ?_
    · intro i hi
      generalize itn (fun i k => upd k i (k (i + 16))) i (σ.1 62) = g
      rw [e124_11]
      have h6 : ¬ (176 : Int32) ≤ nI i := nI_ge (a := i) (b := 176) hi (by decide)
      have e17 : nI i + 16 = nI (i + 16) := nI_add i 16
      simp only [e124_0, e124_1, e124_4, e124_6, e124_9, e124_10, e124_12, e124_15, e124_18, e124_19, e124_22, e124_23, e124_24, e124_27, e124_28, e124_30, e124_31, e124_32, e124_33, e124_36, e124_39, e124_40, e124_41, e124_44, e124_45, e124_46, e124_49, e124_50, e124_51, e124_54, e124_56, e124_57, e124_60, e124_61, e124_64, e124_65, e124_66, e124_69, e124_70, e124_71, e124_74, true_or, or_true, true_and, and_true, Option.toList, List.cons_append, List.nil_append, if_true, if_false, reduceIte, sk50, sk62, sn62, sr50_24, h6, e17, in_eq (j := i) (n := 192) (by omega) (by decide), nI_clamp (n := i) (by omega), in_eq (j := i + 16) (n := 192) (by omega) (by decide), nI_clamp (n := i + 16) (by omega), nI_1, wI_eq, wI_wI, wI_ne σ (c := 62) (k := 50) g (by decide)]
    · rw [e124_11, itn_sh]
      have hg : (fun j => if j < 176 then σ.1 62 (j + 16) else σ.1 62 j) = ntB (σ.1 62) 12 := rfl
      rw [hg]
      generalize ntB (σ.1 62) 12 = g
      have n1 : ∀ g, (ab_wI σ 62 g).1 50 = σ.1 50 := fun g => wI_ne σ g (by decide)
      have n2 : ∀ g h, (ab_wI (ab_wI σ 62 g) 50 h).1 62 = g := fun g h => by rw [wI_ne _ _ (by decide), wI_eq]
      have n3 : ∀ g h, (ab_wI (ab_wI σ 62 g) 50 h).1 52 = σ.1 52 := fun g h => by rw [wI_ne _ _ (by decide), wI_ne _ _ (by decide)]
      have n4 : ∀ g h k, ab_wI (ab_wI (ab_wI σ 62 g) 50 h) 62 k = ab_wI (ab_wI σ 62 k) 50 h := fun g h k => by
        refine Prod.ext (funext fun j => ?_) rfl
        simp only [ab_wI]
        by_cases e1 : j = 62
        · subst e1; simp
        · by_cases e2 : j = 50
          · subst e2; simp
          · simp [e1, e2]
      have u1 : ∀ k, upd (σ.1 50) 25 (12 - 1) k = if k = 25 then 11 else σ.1 50 k := fun k => rfl
      simp only [e124_0, e124_1, e124_4, e124_6, e124_9, e124_10, e124_12, e124_15, e124_18, e124_19, e124_22, e124_23, e124_24, e124_27, e124_28, e124_30, e124_31, e124_32, e124_33, e124_36, e124_39, e124_40, e124_41, e124_44, e124_45, e124_46, e124_49, e124_50, e124_51, e124_54, e124_56, e124_57, e124_60, e124_61, e124_64, e124_65, e124_66, e124_69, e124_70, e124_71, e124_74, true_or, or_true, true_and, and_true, Option.toList, List.cons_append, List.nil_append, if_true, if_false, reduceIte, sk50, n1, v, show nI 12 = (12 : Int32) from rfl, wI_eq, sr50_24, u1, e16]
      rw [if_pos (show (176 : Int32) ≤ nI 176 from nI_le (Nat.le_refl 176) (by decide))]
      have : (16 : Int32) * 11 = nI 176 := by decide
      simp only [this, c125 (c := 62) (a := 176) (n := 192) sk62 sn62 (by decide) (by decide) (by decide) (by decide), n2, n3, n4, wI_eq, wI_wI, true_or, or_true, true_and, and_true, Option.toList, List.cons_append, List.nil_append, if_true, if_false, reduceIte, e124_0, e124_1, e124_4, e124_6, e124_9, e124_10, e124_12, e124_15, e124_18, e124_19, e124_22, e124_23, e124_24, e124_27, e124_28, e124_30, e124_31, e124_32, e124_33, e124_36, e124_39, e124_40, e124_41, e124_44, e124_45, e124_46, e124_49, e124_50, e124_51, e124_54, e124_56, e124_57, e124_60, e124_61, e124_64, e124_65, e124_66, e124_69, e124_70, e124_71, e124_74, sk50, u1, upd2]
      simp only [Nat.reduceEqDiff, true_or, or_true, true_and, and_true, Option.toList, List.cons_append, List.nil_append, if_true, if_false, reduceIte]
      rfl
  · have hb : ntB (σ.1 62) ac = σ.1 62 := if_neg h12
    have hc : ntC ac = ac := if_neg h12
    have hne : ¬ nI ac = (12 : Int32) := fun e => h12 (nI_inj (b := 12) (by omega) (by decide) e)
    have n1 : ∀ g, (ab_wI σ 62 g).1 50 = σ.1 50 := fun g => wI_ne σ g (by decide)
    simp only [e124_0, e124_1, e124_4, e124_6, e124_9, e124_10, e124_12, e124_15, e124_18, e124_19, e124_22, e124_23, e124_24, e124_27, e124_28, e124_30, e124_31, e124_32, e124_33, e124_36, e124_39, e124_40, e124_41, e124_44, e124_45, e124_46, e124_49, e124_50, e124_51, e124_54, e124_56, e124_57, e124_60, e124_61, e124_64, e124_65, e124_66, e124_69, e124_70, e124_71, e124_74, true_or, or_true, true_and, and_true, Option.toList, List.cons_append, List.nil_append, if_true, if_false, reduceIte, sk50, v, hne, sr50_24, e16, c125 (c := 62) (a := 16 * ac) (n := 192) sk62 sn62 (by omega) (by decide) (by decide) (by decide), n1, nI_1, hb, hc]
