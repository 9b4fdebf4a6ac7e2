/-! FAULT, PARLOUR -/
theorem sam_chR {σ τ : ab_St} (h : chR σ τ) : sam σ τ := by
  have hm : ∀ c ∈ [0, 1, 2, 11, 12, 13, 14, 15, 16, 17, 20, 21, 22, 23, 24, 25, 27, 28, 29, 30, 51, 52, 53, 54, 55, 56, 62, 63, 64], c ∉ [3, 4, 5, 6, 7, 8, 9, 10] := by decide
  exact ⟨fun c hc => h.1.1 c (hm c hc), fun k _ => by rw [h.1.1 50 (by decide)], h.2.1, h.2.2⟩
theorem sam_chP {σ τ : ab_St} (h : chP σ τ) : sam σ τ := chM_sam (chP_M h)
set_option maxHeartbeats 4000000 in
theorem op_fault {B : Nat} {σ : ab_St} (hI : Inv B σ) : op2 B σ 14 [some (.ref 0)] 103 [some (.ref 50)] := by
  obtain ⟨tn, tx, t, f, th, sd, la, lw, ⟨h1, h2, h3, h4, h5, h6, h7⟩, -⟩ := id hI
  obtain ⟨x1, x2, x3, x4⟩ := h2
  refine op2_q (.int (prn tx tn tn 0 p00).1) hI ?_
  simp only [e14_0, e14_1, e14_4, e14_5, e14_8, true_or, or_true, true_and, and_true, Option.toList, List.cons_append, List.nil_append, if_true, if_false, reduceIte, sk0, sk3, sr0_0, sr0_1]
  refine c15 (d := 4) x1 x2 (fun j hj => ⟨(x4 j hj).1, (x4 j hj).2.1⟩) (fun τ cτ _ => ?_)
  simp only [e14_11, true_or, or_true, true_and, and_true, Option.toList, List.cons_append, List.nil_append, if_true, if_false, reduceIte]
  refine ⟨sam_chR cτ, ?_⟩
  simp only [e103_0, e103_1, e103_2, e103_5, e103_6, true_or, or_true, true_and, and_true, Option.toList, List.cons_append, List.nil_append, if_true, if_false, reduceIte, sk50]
  refine c104 (d := 3) (tn := tn) (tx := tx) ⟨x1, ?_, fun j hj => ⟨(x4 j hj).1, ?_⟩⟩ (fun υ cυ _ => ?_)
  · simp only [wI_get, upd_get, Nat.reduceEqDiff, reduceIte, if_true, if_false]; rw [cτ.1.1 50 (by decide)]; exact x3
  · simp only [wI_get, upd_get, Nat.reduceEqDiff, reduceIte, if_true, if_false]; rw [cτ.1.1 51 (by decide)]; exact (x4 j hj).2.2
  · simp only [e103_9, true_or, or_true, true_and, and_true, Option.toList, List.cons_append, List.nil_append, if_true, if_false, reduceIte]
    exact sam_tr (sam_50 (by decide)) (sam_chP cυ)
theorem ev_up (F : Nat → Prop) (n : Nat) (h : ∀ i, i < n → F i = F (i + 1)) : F 0 = F n := by
  induction n with
  | zero => rfl
  | succ n ih => rw [ih (fun i hi => h i (by omega)), h n (by omega)]
theorem cpN_s (h g : Nat → Int32) (i : Nat) : upd (cpN i h g) i (h i) = cpN (i + 1) h g := by
  funext j
  unfold upd cpN
  by_cases e : j = i
  · subst e; simp
  · by_cases h2 : j < i
    · simp only [if_neg e, if_pos h2, if_pos (show j < i + 1 by omega)]
    · simp only [if_neg e, if_neg h2, if_neg (show ¬ j < i + 1 by omega)]
theorem cpN_0 (h g : Nat → Int32) : cpN 0 h g = g := by
  funext j
  unfold cpN
  rw [if_neg (by omega)]
theorem cpN_lt {h g : Nat → Int32} {n j : Nat} (hj : j < n) : cpN n h g j = h j := if_pos hj
theorem e8_clamp : (8 : Int32).toNatClampNeg = 8 := rfl
theorem nn8 : ¬ ((8 : Int32) < 0) := by decide
set_option maxHeartbeats 4000000 in
/-- Told.copyFrom -/
theorem c34 {d : Nat} {σ : ab_St} {Q : Option Value → ab_St → Prop} (hQ : ∀ τ, ch [11, 12, 13, 14, 15] σ τ → τ.1 12 = cpN 8 (σ.1 5) (σ.1 12) → τ.1 13 = cpN 8 (σ.1 6) (σ.1 13) → τ.1 14 = cpN 8 (σ.1 7) (σ.1 14) → τ.1 15 = cpN 8 (σ.1 8) (σ.1 15) → τ.1 11 4 = σ.1 4 4 → τ.1 11 5 = σ.1 4 5 → Q none τ) :
    Ev (d + 1) 34 0 [some (.ref 11), some (.ref 4)] [] σ Q := by
  simp only [e34_0, e34_1, e34_4, e34_5, e34_6, e34_9, e34_10, e34_12, e34_15, e34_16, e34_19, e34_20, e34_21, e34_24, e34_25, e34_27, e34_30, e34_31, e34_34, e34_35, e34_36, e34_39, e34_40, e34_42, e34_45, e34_46, e34_49, e34_50, e34_51, e34_54, e34_55, e34_57, e34_60, e34_61, e34_62, e34_65, e34_68, e34_69, e34_70, e34_73, e34_76, true_or, or_true, true_and, and_true, Option.toList, List.cons_append, List.nil_append, if_true, if_false, reduceIte, wI_get, upd_get, Nat.reduceEqDiff, reduceIte, if_true, if_false, sk11, sk4, sr11_0, sr11_1, sr11_2, sr11_3, sr4_0, sr4_1, sr4_2, sr4_3, sk5, sk6, sk7, sk8, sn5, sn6, sn7, sn8, sk12, sk13, sk14, sk15, sn12, sn13, sn14, sn15, z_clamp, e8_clamp, n0, nn8, not_false_eq_true, Nat.zero_add, Nat.le_refl, va_cpy0]
  refine hQ _ ?_ ?_ ?_ ?_ ?_ ?_ ?_
  · repeat (first | exact ch_rf _ _ | refine ch_w ?_ (by decide))
  · simp only [wI_get, upd_get, Nat.reduceEqDiff, reduceIte, if_true, if_false]
  · simp only [wI_get, upd_get, Nat.reduceEqDiff, reduceIte, if_true, if_false]
  · simp only [wI_get, upd_get, Nat.reduceEqDiff, reduceIte, if_true, if_false]
  · simp only [wI_get, upd_get, Nat.reduceEqDiff, reduceIte, if_true, if_false]
  · simp only [wI_get, upd_get, Nat.reduceEqDiff, reduceIte, if_true, if_false]
  · simp only [wI_get, upd_get, Nat.reduceEqDiff, reduceIte, if_true, if_false]
set_option maxHeartbeats 8000000 in
/-- the model's parlour from its first row on -/
theorem c110b {d P S : Nat} {σ : ab_St} {Q : Option Value → ab_St → Prop} (hP : P ≤ 6) (hS : S ≤ 8) (v5 : σ.1 50 5 = nI P) (v8 : σ.1 50 8 = nI S) (hQ : ∀ τ, ch [50, 52, 53, 54, 55, 56, 64] σ τ → τ.1 52 = cpN P (σ.1 57) (σ.1 52) → τ.1 53 = cpN S (σ.1 58) (σ.1 53) → τ.1 54 = cpN S (σ.1 59) (σ.1 54) → τ.1 55 = cpN S (σ.1 60) (σ.1 55) → τ.1 56 = cpN S (σ.1 61) (σ.1 56) → τ.1 64 0 = 0 → τ.1 64 1 = 0 → τ.1 50 = upd (upd (upd (σ.1 50) 13 0) 14 (-9)) 25 0 → Q (some (.int (nI P))) τ) :
    Ev d 110 51 [some (.ref 50), some (.int 0)] [] σ Q := by
  have hst : σ = ab_wI σ 52 (cpN 0 (σ.1 57) (σ.1 52)) := by rw [cpN_0, wI_self]
  have l1 := ev_up (fun i => Ev d 110 51 [some (.ref 50), some (.int (nI i))] [] (ab_wI σ 52 (cpN i (σ.1 57) (σ.1 52))) Q) P (fun i hi => by
    rw [e110_51]
    have hge : (nI P ≤ nI i) = False := eq_false (nI_ge hi (by omega))
    simp only [e110_52, e110_53, e110_56, e110_59, e110_60, e110_63, e110_64, e110_65, e110_68, e110_69, e110_70, e110_71, e110_74, true_or, or_true, true_and, and_true, Option.toList, List.cons_append, List.nil_append, if_true, if_false, reduceIte, wI_get, upd_get, Nat.reduceEqDiff, reduceIte, if_true, if_false, sk50, sr50_6, sr50_17, sk52, sn52, sk57, sn57, v5, hge, in_eq (j := i) (n := 6) (by omega) (by decide), nI_clamp (n := i) (by omega), nI_1, wI_wI, cpN_s])
  rw [show (some (Value.int (0 : Int32))) = some (.int (nI 0)) from rfl]
  rw [← hst] at l1
  rw [l1, e110_51]
  have hge : (nI P ≤ nI P) = True := eq_true (nI_le (Nat.le_refl _) (by omega))
  simp only [e110_52, e110_53, e110_56, e110_59, e110_60, e110_63, e110_64, e110_65, e110_68, e110_69, e110_70, e110_71, e110_74, e110_77, e110_78, true_or, or_true, true_and, and_true, Option.toList, List.cons_append, List.nil_append, if_true, if_false, reduceIte, wI_get, upd_get, Nat.reduceEqDiff, reduceIte, if_true, if_false, sk50, v5, hge]
  generalize hα : ab_wI σ 52 (cpN P (σ.1 57) (σ.1 52)) = α
  have αc : ch [50, 52, 53, 54, 55, 56, 64] σ α := by rw [← hα]; exact ch_w (ch_rf _ _) (by decide)
  have αn : ∀ c, c ≠ 52 → α.1 c = σ.1 c := fun c hc => by rw [← hα, wI_ne _ _ hc]
  have α52 : α.1 52 = cpN P (σ.1 57) (σ.1 52) := by rw [← hα, wI_eq]
  have hst2 : α = ab_wI (ab_wI (ab_wI (ab_wI α 53 (cpN 0 (α.1 58) (α.1 53))) 54 (cpN 0 (α.1 59) (α.1 54))) 55 (cpN 0 (α.1 60) (α.1 55))) 56 (cpN 0 (α.1 61) (α.1 56)) := by simp only [cpN_0]; rw [wI_self, wI_self, wI_self, wI_self]
  have w5 : α.1 50 5 = nI P := by rw [αn 50 (by decide)]; exact v5
  have w8 : α.1 50 8 = nI S := by rw [αn 50 (by decide)]; exact v8
  have hcm : ∀ {a b : Nat} {τ : ab_St} {g h : Nat → Int32}, a ≠ b → ab_wI (ab_wI τ a g) b h = ab_wI (ab_wI τ b h) a g := fun h => wI_comm _ _ _ h
  have l2 := ev_up (fun i => Ev d 110 79 [some (.ref 50), some (.int (nI i))] [] (ab_wI (ab_wI (ab_wI (ab_wI α 53 (cpN i (α.1 58) (α.1 53))) 54 (cpN i (α.1 59) (α.1 54))) 55 (cpN i (α.1 60) (α.1 55))) 56 (cpN i (α.1 61) (α.1 56))) Q) S (fun i hi => by
    rw [e110_79]
    have hge : (nI S ≤ nI i) = False := eq_false (nI_ge hi (by omega))
    simp only [e110_80, e110_81, e110_84, e110_87, e110_88, e110_91, e110_92, e110_93, e110_96, e110_97, e110_98, e110_99, e110_100, e110_103, e110_104, e110_105, e110_108, e110_109, e110_110, e110_111, e110_112, e110_115, e110_116, e110_117, e110_120, e110_121, e110_122, e110_123, e110_124, e110_127, e110_128, e110_129, e110_132, e110_133, e110_134, e110_135, e110_138, true_or, or_true, true_and, and_true, Option.toList, List.cons_append, List.nil_append, if_true, if_false, reduceIte, wI_get, upd_get, Nat.reduceEqDiff, reduceIte, if_true, if_false, sk50, sr50_9, sr50_10, sr50_11, sr50_12, sr50_20, sr50_21, sr50_22, sr50_23, sk53, sn53, sk54, sn54, sk55, sn55, sk56, sn56, sk58, sn58, sk59, sn59, sk60, sn60, sk61, sn61, w8, hge, in_eq (j := i) (n := 8) (by omega) (by decide), nI_clamp (n := i) (by omega), nI_1, cpN_s]
    congr 1
    refine Prod.ext (funext fun k => ?_) rfl
    simp only [wI_get]
    by_cases k3 : k = 53
    · subst k3; simp
    by_cases k4 : k = 54
    · subst k4; simp
    by_cases k5 : k = 55
    · subst k5; simp
    by_cases k6 : k = 56
    · subst k6; simp
    simp [k3, k4, k5, k6])
  rw [show (some (Value.int (0 : Int32))) = some (.int (nI 0)) from rfl]
  rw [← hst2] at l2
  rw [l2, e110_79]
  have hge2 : (nI S ≤ nI S) = True := eq_true (nI_le (Nat.le_refl _) (by omega))
  have nar0 : vp_nar .boolean 0 = 0 := rfl
  simp only [e110_80, e110_81, e110_84, e110_87, e110_88, e110_91, e110_92, e110_93, e110_96, e110_97, e110_98, e110_99, e110_100, e110_103, e110_104, e110_105, e110_108, e110_109, e110_110, e110_111, e110_112, e110_115, e110_116, e110_117, e110_120, e110_121, e110_122, e110_123, e110_124, e110_127, e110_128, e110_129, e110_132, e110_133, e110_134, e110_135, e110_138, e110_141, e110_142, e110_143, e110_146, e110_147, e110_149, e110_152, e110_153, e110_154, e110_157, e110_158, e110_161, e110_162, e110_163, e110_164, e110_165, e110_168, e110_169, e110_170, e110_171, e110_172, e110_175, true_or, or_true, true_and, and_true, Option.toList, List.cons_append, List.nil_append, if_true, if_false, reduceIte, wI_get, upd_get, Nat.reduceEqDiff, reduceIte, if_true, if_false, sk50, w8, w5, hge2, sr50_27, sk64, sn64, show ¬ (102 = 101) by decide, false_and, show ab_in 0 2 = True from in_eq (j := 0) (n := 2) (by decide) (by decide), show ab_in 1 2 = True from in_eq (j := 1) (n := 2) (by decide) (by decide), nar0, z_clamp, show (1 : Int32).toNatClampNeg = 1 from rfl]
  refine hQ _ ?_ ?_ ?_ ?_ ?_ ?_ ?_ ?_ ?_
  · refine ch_tr αc ?_
    repeat (first | exact ch_rf _ _ | refine ch_w ?_ (by decide))
  · simp only [wI_get, upd_get, Nat.reduceEqDiff, reduceIte, if_true, if_false]; rw [α52]
  · simp only [wI_get, upd_get, Nat.reduceEqDiff, reduceIte, if_true, if_false]; rw [αn 58 (by decide), αn 53 (by decide)]
  · simp only [wI_get, upd_get, Nat.reduceEqDiff, reduceIte, if_true, if_false]; rw [αn 59 (by decide), αn 54 (by decide)]
  · simp only [wI_get, upd_get, Nat.reduceEqDiff, reduceIte, if_true, if_false]; rw [αn 60 (by decide), αn 55 (by decide)]
  · simp only [wI_get, upd_get, Nat.reduceEqDiff, reduceIte, if_true, if_false]; rw [αn 61 (by decide), αn 56 (by decide)]
  · simp only [wI_get, upd_get, Nat.reduceEqDiff, reduceIte, if_true, if_false]
  · simp only [wI_get, upd_get, Nat.reduceEqDiff, reduceIte, if_true, if_false]
  · simp only [wI_get, upd_get, Nat.reduceEqDiff, reduceIte, if_true, if_false]; rw [αn 50 (by decide)]
set_option maxHeartbeats 8000000 in
theorem op_parlour {B : Nat} {σ : ab_St} (hB : 99 ≤ B) (hI : Inv B σ) : op2 B σ 33 [some (.ref 0)] 110 [some (.ref 50), none] := by
  obtain ⟨tn, tx, t0, f0, th0, sd0, la0, lw0, ⟨h1, h2, h3, h4, h5, h6, h7⟩, ⟨ac, fi, hw, hf, hth, hsd, hla, ha⟩, ks, hk⟩ := id hI
  obtain ⟨x1, x2, x3, x4⟩ := h2
  by_cases hp : (prn tx tn tn 0 p00).1 = -9
  · have hend := prn_end tn 0 p00 (by omega) x1 pI_00 hp
    obtain ⟨⟨due, ⟨P, S, w, z, v, a⟩, f, th, lw, an⟩, hpp⟩ : ∃ p : pS, (prn tx tn tn 0 p00).2 = p := ⟨_, rfl⟩
    rw [hpp] at hend
    obtain ⟨⟨-, p2, p3, -, -, p6, p7, -, p9, -, -, -, p13, -, -⟩, hdue⟩ := hend
    have hdue2 : due = 2 := hdue
    subst hdue2
    rw [if_neg (by omega)] at p6
    refine op2_v (.int (nI P)) ?_
    simp only [e33_0, e33_1, e33_4, e33_5, e33_8, true_or, or_true, true_and, and_true, Option.toList, List.cons_append, List.nil_append, if_true, if_false, reduceIte, sk0, sk3, sr0_0, sr0_1]
    refine c15 (d := 4) x1 x2 (fun j hj => ⟨(x4 j hj).1, (x4 j hj).2.1⟩) (fun τ cτ rτ => ?_)
    have rC := rτ hp
    rw [hpp] at rC
    obtain ⟨-, -, r3, r4, r5, r6, r7, -, r9, -⟩ := rC
    simp only [e33_11, e33_13, e33_16, e33_18, e33_19, e33_20, e33_23, e33_24, e33_27, e33_30, true_or, or_true, true_and, and_true, Option.toList, List.cons_append, List.nil_append, if_true, if_false, reduceIte, sk0, sr0_1, sr0_2, sr3_0, sk3, sk11, hp]
    refine c34 (fun υ cυ u12 u13 u14 u15 u4 u5 => ?_)
    have c35' := fun Q => c35 (d := 6) (c := 16) (w := 17) (c2 := 9) (w2 := 10) (σ := υ) (Q := Q) sk16 sk9 rfl rfl sk17 sk10 sn17 sn10 (by decide)
    simp only [e33_33, e33_34, e33_37, e33_38, e33_41, e33_44, e33_47, e33_48, e33_51, e33_54, e33_55, e33_56, e33_59, e33_60, e33_63, e33_66, true_or, or_true, true_and, and_true, Option.toList, List.cons_append, List.nil_append, if_true, if_false, reduceIte, wI_get, upd_get, Nat.reduceEqDiff, reduceIte, if_true, if_false, sk0, sr0_1, sr0_2, sr0_3, sr0_5, sr3_1, sk3, sk11, sk16, sk20, c35', c36 (d := 7) (c := 20) sk20, u4, r3]
    generalize hς : ab_wI _ 0 _ = ς
    have z0 : ς.1 0 10 = 0 := by rw [← hς]; simp only [wI_get, upd_get, Nat.reduceEqDiff, reduceIte, if_true, if_false]
    have z16 : ς.1 16 = upd (upd (upd (upd (υ.1 16) 1 (υ.1 9 1)) 2 (υ.1 9 2)) 3 (υ.1 9 3)) 4 (υ.1 9 4) := by rw [← hς]; simp only [wI_get, upd_get, Nat.reduceEqDiff, reduceIte, if_true, if_false]
    have z17 : ς.1 17 = cpN 6 (υ.1 10) (υ.1 17) := by rw [← hς]; simp only [wI_get, upd_get, Nat.reduceEqDiff, reduceIte, if_true, if_false]
    have z20 : ς.1 20 = upd (υ.1 20) 6 0 := by rw [← hς]; simp only [wI_get, upd_get, Nat.reduceEqDiff, reduceIte, if_true, if_false]
    have zo : ∀ c, c ∉ [0, 16, 17, 20] → ς.1 c = υ.1 c := fun c hc => by
      simp only [List.mem_cons, List.not_mem_nil, or_false, not_or] at hc
      rw [← hς, wI_ne _ _ hc.1, wI_ne _ _ hc.2.2.2, wI_ne _ _ hc.2.1, wI_ne _ _ hc.2.2.1]
    have zt : ∀ c, c ∉ [0, 3, 4, 5, 6, 7, 8, 9, 10, 11, 12, 13, 14, 15, 16, 17, 20] → ς.1 c = σ.1 c := fun c hc => by
      have m1 : ∀ c, c ∉ [0, 3, 4, 5, 6, 7, 8, 9, 10, 11, 12, 13, 14, 15, 16, 17, 20] → c ∉ [0, 16, 17, 20] ∧ c ∉ [11, 12, 13, 14, 15] ∧ c ∉ [3, 4, 5, 6, 7, 8, 9, 10] := by
        intro c hc
        simp only [List.mem_cons, List.not_mem_nil, or_false, not_or] at hc ⊢
        omega
      rw [zo c (m1 c hc).1, cυ.1 c (m1 c hc).2.1, cτ.1.1 c (m1 c hc).2.2]
    have u9 : υ.1 9 = τ.1 9 := cυ.1 9 (by decide)
    have u10 : υ.1 10 = τ.1 10 := cυ.1 10 (by decide)
    have u20 : υ.1 20 = σ.1 20 := by rw [cυ.1 20 (by decide), cτ.1.1 20 (by decide)]
    clear hς
    simp only [e110_0, e110_1, e110_2, e110_5, e110_6, true_or, or_true, true_and, and_true, Option.toList, List.cons_append, List.nil_append, if_true, if_false, reduceIte, sk50]
    refine c104 (d := 3) (tn := tn) (tx := tx) ⟨x1, ?_, fun j hj => ⟨(x4 j hj).1, ?_⟩⟩ (fun μ cμ rμ => ?_)
    · simp only [wI_get, upd_get, Nat.reduceEqDiff, reduceIte, if_true, if_false]; rw [zt 50 (by decide)]; exact x3
    · simp only [wI_get, upd_get, Nat.reduceEqDiff, reduceIte, if_true, if_false]; rw [zt 51 (by decide)]; exact (x4 j hj).2.2
    have rM := rμ hp
    rw [hpp] at rM
    obtain ⟨b1, b2, b3, b4, b5, b6⟩ := rM
    simp only [e110_9, e110_11, e110_14, e110_16, e110_17, e110_18, e110_19, e110_22, e110_25, e110_26, e110_27, e110_30, e110_33, e110_34, e110_35, e110_38, e110_41, e110_42, e110_43, e110_46, e110_49, e110_50, true_or, or_true, true_and, and_true, Option.toList, List.cons_append, List.nil_append, if_true, if_false, reduceIte, wI_get, upd_get, Nat.reduceEqDiff, reduceIte, if_true, if_false, sk50, hp, b1, b2, b3, b4]
    generalize hν : ab_wI _ 50 _ = ν
    have ν50 : ν.1 50 = upd (upd (upd (upd (μ.1 50) 4 (nI lw)) 5 (nI P)) 7 (nI th)) 8 (nI S) := by rw [← hν]; simp only [wI_get, upd_get, Nat.reduceEqDiff, reduceIte, if_true, if_false]
    have νo : ∀ c, c ≠ 50 → ν.1 c = μ.1 c := fun c hc => by rw [← hν]; simp only [wI_get, if_neg hc]
    clear hν
    have μo : ∀ c, c ∉ [50, 57, 58, 59, 60, 61] → μ.1 c = ς.1 c := fun c hc => by
      rw [cμ.1 c hc, wI_ne]
      intro e; rw [e] at hc; exact hc (by decide)
    refine c110b p2 p3 (by rw [ν50]; rfl) (by rw [ν50]; rfl) (fun ω cω w52 w53 w54 w55 w56 w640 w641 w50 => ?_)
    refine ⟨rfl, tn, tx, (P, S, w, z, v, a), f, th, 0, -9, lw, ⟨⟨p2, p3, p9⟩, ⟨x1, ?_, ?_, fun j hj => ⟨(x4 j hj).1, ?_, ?_⟩⟩, ⟨?_, ?_, fun s hs => ⟨?_, ?_, ?_, ?_⟩⟩, ⟨?_, ?_, fun s hs => ⟨?_, ?_, ?_, ?_⟩⟩, ⟨p6, Nat.pow_pos (by decide), Or.inl rfl, p13, fun p hp2 => by have := p7 p hp2; omega⟩, ⟨fun p hp2 => ⟨?_, ?_⟩, ?_, ?_, ?_, ?_, ?_, ?_, ?_, ?_⟩, ?_, ?_⟩, ⟨0, fi, fun _ => 0, fun _ => f, fun _ => 0, fun _ => 0, fun _ => 0, ⟨by decide, ha.2.1, ?_, ?_, ?_, fun i hi => by omega, fun _ _ => rfl, fun i hi => by omega⟩⟩, 0, ⟨by decide, ?_, ⟨?_, ?_⟩, fun hb => ?_, fun hb => ?_⟩⟩
    · rw [cω.1 1 (by decide), νo 1 (by decide), μo 1 (by decide), zt 1 (by decide)]; exact x2
    · rw [w50, ν50]; simp only [wI_get, upd_get, Nat.reduceEqDiff, reduceIte, if_true, if_false]; rw [cμ.2 2 (by decide)]; simp only [wI_get, upd_get, Nat.reduceEqDiff, reduceIte, if_true, if_false]; rw [zt 50 (by decide)]; exact x3
    · rw [cω.1 2 (by decide), νo 2 (by decide), μo 2 (by decide), zt 2 (by decide)]; exact (x4 j hj).2.1
    · rw [cω.1 51 (by decide), νo 51 (by decide), μo 51 (by decide), zt 51 (by decide)]; exact (x4 j hj).2.2
    · rw [cω.1 11 (by decide), νo 11 (by decide), μo 11 (by decide), zo 11 (by decide), u4]; exact r3
    · rw [cω.1 11 (by decide), νo 11 (by decide), μo 11 (by decide), zo 11 (by decide), u5]; exact r4
    · rw [sr11_0, cω.1 12 (by decide), νo 12 (by decide), μo 12 (by decide), zo 12 (by decide), u12, cpN_lt (Nat.lt_of_lt_of_le hs p3)]; exact (r9 s hs).1
    · rw [sr11_1, cω.1 13 (by decide), νo 13 (by decide), μo 13 (by decide), zo 13 (by decide), u13, cpN_lt (Nat.lt_of_lt_of_le hs p3)]; exact (r9 s hs).2.1
    · rw [sr11_2, cω.1 14 (by decide), νo 14 (by decide), μo 14 (by decide), zo 14 (by decide), u14, cpN_lt (Nat.lt_of_lt_of_le hs p3)]; exact (r9 s hs).2.2.1
    · rw [sr11_3, cω.1 15 (by decide), νo 15 (by decide), μo 15 (by decide), zo 15 (by decide), u15, cpN_lt (Nat.lt_of_lt_of_le hs p3)]; exact (r9 s hs).2.2.2
    · rw [w50, ν50]; rfl
    · rw [w50, ν50]; rfl
    · rw [w53, cpN_lt (show s < S from hs), νo 58 (by decide)]; exact (b6 s hs).1
    · rw [w54, cpN_lt (show s < S from hs), νo 59 (by decide)]; exact (b6 s hs).2.1
    · rw [w55, cpN_lt (show s < S from hs), νo 60 (by decide)]; exact (b6 s hs).2.2.1
    · rw [w56, cpN_lt (show s < S from hs), νo 61 (by decide)]; exact (b6 s hs).2.2.2
    · rw [cω.1 17 (by decide), νo 17 (by decide), μo 17 (by decide), z17, cpN_lt (Nat.lt_of_lt_of_le hp2 p2), u10]; exact r7 p hp2
    · rw [w52, cpN_lt (show p < P from hp2), νo 57 (by decide)]; exact b5 p hp2
    · rw [cω.1 16 (by decide), νo 16 (by decide), μo 16 (by decide), z16]; simp only [wI_get, upd_get, Nat.reduceEqDiff, reduceIte, if_true, if_false]; rw [u9]; exact r5
    · rw [w50, ν50]; rfl
    · rw [cω.1 16 (by decide), νo 16 (by decide), μo 16 (by decide), z16]; simp only [wI_get, upd_get, Nat.reduceEqDiff, reduceIte, if_true, if_false]; rw [u9, cτ.2.1]; exact h7.1
    · rw [w50, ν50]; rfl
    · rw [cω.1 16 (by decide), νo 16 (by decide), μo 16 (by decide), z16]; simp only [wI_get, upd_get, Nat.reduceEqDiff, reduceIte, if_true, if_false]; rw [u9, cτ.2.2]; exact h7.2
    · rw [w50, ν50]; rfl
    · rw [cω.1 16 (by decide), νo 16 (by decide), μo 16 (by decide), z16]; simp only [wI_get, upd_get, Nat.reduceEqDiff, reduceIte, if_true, if_false]; rw [u9]; exact r6
    · rw [w50, ν50]; rfl
    · rw [cω.1 9 (by decide), νo 9 (by decide), μo 9 (by decide), zo 9 (by decide), u9, cτ.2.1]; exact h7.1
    · rw [cω.1 9 (by decide), νo 9 (by decide), μo 9 (by decide), zo 9 (by decide), u9, cτ.2.2]; exact h7.2
    · rw [cω.1 20 (by decide), νo 20 (by decide), μo 20 (by decide), z20]; simp only [wI_get, upd_get, Nat.reduceEqDiff, reduceIte, if_true, if_false]; rw [u20]; exact ha.2.2.1
    · rw [cω.1 20 (by decide), νo 20 (by decide), μo 20 (by decide), z20]; rfl
    · rw [w50, ν50]; rfl
    · rw [cω.1 0 (by decide), νo 0 (by decide), μo 0 (by decide), z0]; rfl
    · rw [w640]; rfl
    · rw [w641]; rfl
    · simp at hb
    · simp at hb
  · refine op2_q (.int (-3)) hI ?_
    simp only [e33_0, e33_1, e33_4, e33_5, e33_8, true_or, or_true, true_and, and_true, Option.toList, List.cons_append, List.nil_append, if_true, if_false, reduceIte, sk0, sk3, sr0_0, sr0_1]
    refine c15 (d := 4) x1 x2 (fun j hj => ⟨(x4 j hj).1, (x4 j hj).2.1⟩) (fun τ cτ _ => ?_)
    simp only [e33_11, e33_13, e33_16, e33_18, true_or, or_true, true_and, and_true, Option.toList, List.cons_append, List.nil_append, if_true, if_false, reduceIte, eq_false hp]
    refine ⟨sam_chR cτ, ?_⟩
    simp only [e110_0, e110_1, e110_2, e110_5, e110_6, true_or, or_true, true_and, and_true, Option.toList, List.cons_append, List.nil_append, if_true, if_false, reduceIte, sk50]
    refine c104 (d := 3) (tn := tn) (tx := tx) ⟨x1, ?_, fun j hj => ⟨(x4 j hj).1, ?_⟩⟩ (fun υ cυ _ => ?_)
    · simp only [wI_get, upd_get, Nat.reduceEqDiff, reduceIte, if_true, if_false]; rw [cτ.1.1 50 (by decide)]; exact x3
    · simp only [wI_get, upd_get, Nat.reduceEqDiff, reduceIte, if_true, if_false]; rw [cτ.1.1 51 (by decide)]; exact (x4 j hj).2.2
    · simp only [e110_9, e110_11, e110_14, e110_16, true_or, or_true, true_and, and_true, Option.toList, List.cons_append, List.nil_append, if_true, if_false, reduceIte, eq_false hp]
      exact sam_tr (sam_50 (by decide)) (sam_chP cυ)
