/-! THE CLASS' READER -/
theorem pst_0 {t : gT} {f : Nat → Nat} {th lw an b : Nat} : pst (0, t, f, th, lw, an) b = if b = 81 then some (1, t, f, th, lw, an) else none := rfl
set_option maxHeartbeats 4000000 in
theorem c18_0 {d b P S : Nat} {w z v : Nat → Nat} {a : Nat → Int32} {f : Nat → Nat} {th lw an : Nat} {σ : ab_St} {Q : Option Value → ab_St → Prop} (hI : pI (0, (P, S, w, z, v, a), f, th, lw, an)) (hR : RC σ (0, (P, S, w, z, v, a), f, th, lw, an)) (hb : b < 256) (h1 : ∀ p2, pst (0, (P, S, w, z, v, a), f, th, lw, an) b = some p2 → ∀ τ, chR σ τ → RC τ p2 → Q (some (.int 1)) τ) (h0 : pst (0, (P, S, w, z, v, a), f, th, lw, an) b = none → ∀ τ, chR σ τ → Q (some (.int 0)) τ) : Ev (d + 2) 18 0 [some (.ref 3), some (.int (sb b))] [] σ Q := by
  obtain ⟨r1, r2, r3, r4, r5, r6, r7, r8, r9, r10, r11, r12⟩ := hR
  obtain ⟨i1, i2, i3, i4, i5, i6, i7, i8, i9, i10, i11, i12, i13, i14, i15⟩ := hI
  have e81 := sb_81 ⟨b, hb⟩
  simp only [e18_0, e18_1, e18_4, e18_52, e18_53, e18_54, e18_57, e18_58, e18_59, e18_60, e18_62, e18_63, e18_66, e18_67, e18_68, e18_70, e18_73, e18_74, e18_77, e18_80, e18_81, e18_82, e18_85, e18_86, e18_87, e18_88, e18_90, e18_91, e18_94, e18_95, e18_96, e18_97, e18_99, e18_100, e18_103, e18_104, e18_105, e18_106, e18_108, e18_109, e18_112, e18_113, e18_114, e18_115, e18_117, e18_118, e18_121, e18_122, e18_123, e18_124, e18_126, e18_127, e18_130, e18_131, e18_132, e18_134, e18_137, e18_138, e18_140, e18_143, e18_146, e18_147, e18_148, e18_150, e18_151, e18_154, e19_0, e19_1, e19_2, e19_5, e19_6, e19_8, e19_11, e19_12, e19_15, e19_16, true_or, or_true, true_and, and_true, Option.toList, List.cons_append, List.nil_append, if_true, if_false, reduceIte, wI_get, upd_get, Nat.reduceEqDiff, reduceIte, if_true, if_false, sk3, r1, eq_true (show nI 0 = (0 : Int32) from rfl), propext e81]
  by_cases hbb : b = 81
  · rw [if_pos hbb]
    refine h1 (1, (P, S, w, z, v, a), f, th, lw, an) (by simp [pst, hbb]) _ (chR_w (chR_rf σ) (by decide)) ⟨?_, ?_, ?_, ?_, ?_, ?_, ?_, by omega, ?_, by omega, by omega, by omega⟩
    · simp only [wI_get, upd_get, Nat.reduceEqDiff, reduceIte, if_true, if_false]; rfl
    · simp only [wI_get, upd_get, Nat.reduceEqDiff, reduceIte, if_true, if_false]; exact r2
    · simp only [wI_get, upd_get, Nat.reduceEqDiff, reduceIte, if_true, if_false]; exact r3
    · simp only [wI_get, upd_get, Nat.reduceEqDiff, reduceIte, if_true, if_false]; exact r4
    · simp only [wI_get, upd_get, Nat.reduceEqDiff, reduceIte, if_true, if_false]; exact r5
    · simp only [wI_get, upd_get, Nat.reduceEqDiff, reduceIte, if_true, if_false]; exact r6
    · simp only [wI_get, upd_get, Nat.reduceEqDiff, reduceIte, if_true, if_false]; exact r7
    · simp only [wI_get, upd_get, Nat.reduceEqDiff, reduceIte, if_true, if_false]; exact r9
  · rw [if_neg hbb]
    exact h0 (by simp [pst, hbb]) _ (chR_w (chR_rf σ) (by decide))
set_option maxHeartbeats 4000000 in
theorem c18_1 {d b P S : Nat} {w z v : Nat → Nat} {a : Nat → Int32} {f : Nat → Nat} {th lw an : Nat} {σ : ab_St} {Q : Option Value → ab_St → Prop} (hI : pI (1, (P, S, w, z, v, a), f, th, lw, an)) (hR : RC σ (1, (P, S, w, z, v, a), f, th, lw, an)) (hb : b < 256) (h1 : ∀ p2, pst (1, (P, S, w, z, v, a), f, th, lw, an) b = some p2 → ∀ τ, chR σ τ → RC τ p2 → Q (some (.int 1)) τ) (h0 : pst (1, (P, S, w, z, v, a), f, th, lw, an) b = none → ∀ τ, chR σ τ → Q (some (.int 0)) τ) : Ev (d + 2) 18 0 [some (.ref 3), some (.int (sb b))] [] σ Q := by
  obtain ⟨r1, r2, r3, r4, r5, r6, r7, r8, r9, r10, r11, r12⟩ := hR
  obtain ⟨i1, i2, i3, i4, i5, i6, i7, i8, i9, i10, i11, i12, i13, i14, i15⟩ := hI
  by_cases hd : 48 ≤ b ∧ b ≤ 57
  · have ed := sb_dig ⟨b, hb⟩ hd.1 hd.2
    have n1 : (nI (b - 48) < 0) = False := eq_false (nI_pos (by omega))
    have n2 : (nI (b - 48) < (3 : Int32)) = (b - 48 < 3) := propext (nI_ltI (a := b - 48) (b := 3) (by omega) (by decide))
    simp only [e18_0, e18_1, e18_4, e18_52, e18_53, e18_54, e18_57, e18_58, e18_59, e18_60, e18_62, e18_63, e18_66, e18_67, e18_68, e18_70, e18_73, e18_74, e18_77, e18_80, e18_81, e18_82, e18_85, e18_86, e18_87, e18_88, e18_90, e18_91, e18_94, e18_95, e18_96, e18_97, e18_99, e18_100, e18_103, e18_104, e18_105, e18_106, e18_108, e18_109, e18_112, e18_113, e18_114, e18_115, e18_117, e18_118, e18_121, e18_122, e18_123, e18_124, e18_126, e18_127, e18_130, e18_131, e18_132, e18_134, e18_137, e18_138, e18_140, e18_143, e18_146, e18_147, e18_148, e18_150, e18_151, e18_154, e20_0, e20_1, e20_4, e20_5, e20_6, e20_9, e20_10, e20_11, e20_12, e20_15, e20_16, e20_19, e20_20, e20_21, e20_24, e20_25, true_or, or_true, true_and, and_true, Option.toList, List.cons_append, List.nil_append, if_true, if_false, reduceIte, wI_get, upd_get, Nat.reduceEqDiff, reduceIte, if_true, if_false, sk3, sr3_1, sk9, r1, (show ¬ nI 1 = (0 : Int32) by decide), eq_true (show nI 1 = (1 : Int32) from rfl), ed, n1, n2]
    by_cases h3 : b - 48 < 3
    · rw [if_pos h3]
      refine h1 (2, (P, S, w, z, v, a), f, th, b - 48, an) (by simp [pst]; omega) _ (chR_w (chR_9 (chR_rf σ) (by decide)) (by decide)) ⟨?_, ?_, ?_, ?_, ?_, ?_, ?_, by omega, ?_, by omega, by omega, by omega⟩
      · simp only [wI_get, upd_get, Nat.reduceEqDiff, reduceIte, if_true, if_false]; rfl
      · simp only [wI_get, upd_get, Nat.reduceEqDiff, reduceIte, if_true, if_false]; exact r2
      · simp only [wI_get, upd_get, Nat.reduceEqDiff, reduceIte, if_true, if_false]; exact r3
      · simp only [wI_get, upd_get, Nat.reduceEqDiff, reduceIte, if_true, if_false]; exact r4
      · simp only [wI_get, upd_get, Nat.reduceEqDiff, reduceIte, if_true, if_false]; exact r5
      · simp only [wI_get, upd_get, Nat.reduceEqDiff, reduceIte, if_true, if_false]
      · simp only [wI_get, upd_get, Nat.reduceEqDiff, reduceIte, if_true, if_false]; exact r7
      · simp only [wI_get, upd_get, Nat.reduceEqDiff, reduceIte, if_true, if_false]; exact r9
    · rw [if_neg h3]
      exact h0 (by simp [pst]; omega) _ (chR_rf σ)
  · have en := sb_no ⟨b, hb⟩ hd
    dsimp only at en
    have n1 : (sb b - 48 < 0) = ((sb b - 48).toInt < 0) := lt0_iff _
    have n2 : (sb b - 48 < (3 : Int32)) = ((sb b - 48).toInt < 3) := lt_lit _ _
    simp only [e18_0, e18_1, e18_4, e18_52, e18_53, e18_54, e18_57, e18_58, e18_59, e18_60, e18_62, e18_63, e18_66, e18_67, e18_68, e18_70, e18_73, e18_74, e18_77, e18_80, e18_81, e18_82, e18_85, e18_86, e18_87, e18_88, e18_90, e18_91, e18_94, e18_95, e18_96, e18_97, e18_99, e18_100, e18_103, e18_104, e18_105, e18_106, e18_108, e18_109, e18_112, e18_113, e18_114, e18_115, e18_117, e18_118, e18_121, e18_122, e18_123, e18_124, e18_126, e18_127, e18_130, e18_131, e18_132, e18_134, e18_137, e18_138, e18_140, e18_143, e18_146, e18_147, e18_148, e18_150, e18_151, e18_154, e20_0, e20_1, e20_4, e20_5, e20_6, e20_9, e20_10, e20_11, e20_12, e20_15, e20_16, e20_19, e20_20, e20_21, e20_24, e20_25, true_or, or_true, true_and, and_true, Option.toList, List.cons_append, List.nil_append, if_true, if_false, reduceIte, wI_get, upd_get, Nat.reduceEqDiff, reduceIte, if_true, if_false, sk3, r1, (show ¬ nI 1 = (0 : Int32) by decide), eq_true (show nI 1 = (1 : Int32) from rfl), n1, n2]
    have hz : Q (some (.int 0)) σ := h0 (by simp [pst]; omega) _ (chR_rf σ)
    by_cases z1 : (sb b - 48).toInt < 0
    · rw [if_pos z1]; exact hz
    · rw [if_neg z1, if_neg (by omega)]; exact hz
set_option maxHeartbeats 4000000 in
theorem c18_2 {d b P S : Nat} {w z v : Nat → Nat} {a : Nat → Int32} {f : Nat → Nat} {th lw an : Nat} {σ : ab_St} {Q : Option Value → ab_St → Prop} (hI : pI (2, (P, S, w, z, v, a), f, th, lw, an)) (hR : RC σ (2, (P, S, w, z, v, a), f, th, lw, an)) (hb : b < 256) (h1 : ∀ p2, pst (2, (P, S, w, z, v, a), f, th, lw, an) b = some p2 → ∀ τ, chR σ τ → RC τ p2 → Q (some (.int 1)) τ) (h0 : pst (2, (P, S, w, z, v, a), f, th, lw, an) b = none → ∀ τ, chR σ τ → Q (some (.int 0)) τ) : Ev (d + 2) 18 0 [some (.ref 3), some (.int (sb b))] [] σ Q := by
  obtain ⟨r1, r2, r3, r4, r5, r6, r7, r8, r9, r10, r11, r12⟩ := hR
  obtain ⟨i1, i2, i3, i4, i5, i6, i7, i8, i9, i10, i11, i12, i13, i14, i15⟩ := hI
  have e83 := propext (sb_83 ⟨b, hb⟩)
  have e80 := propext (sb_80 ⟨b, hb⟩)
  have e65 := propext (sb_65 ⟨b, hb⟩)
  dsimp only at e83 e80 e65
  have g8 : ((8 : Int32) ≤ nI S) = (8 ≤ S) := propext (nI_leI (a := 8) (b := S) (by decide) (by omega))
  have g6 : ((6 : Int32) ≤ nI P) = (6 ≤ P) := propext (nI_leI (a := 6) (b := P) (by decide) (by omega))
  have g0 : (nI P = 0) = (P = 0) := propext (nI_eq (a := P) (b := 0) (by omega) (by decide))
  rw [if_neg (by omega)] at i6
  by_cases h83 : b = 83
  · simp only [e18_0, e18_1, e18_4, e18_52, e18_53, e18_54, e18_57, e18_58, e18_59, e18_60, e18_62, e18_63, e18_66, e18_67, e18_68, e18_70, e18_73, e18_74, e18_77, e18_80, e18_81, e18_82, e18_85, e18_86, e18_87, e18_88, e18_90, e18_91, e18_94, e18_95, e18_96, e18_97, e18_99, e18_100, e18_103, e18_104, e18_105, e18_106, e18_108, e18_109, e18_112, e18_113, e18_114, e18_115, e18_117, e18_118, e18_121, e18_122, e18_123, e18_124, e18_126, e18_127, e18_130, e18_131, e18_132, e18_134, e18_137, e18_138, e18_140, e18_143, e18_146, e18_147, e18_148, e18_150, e18_151, e18_154, e21_0, e21_1, e21_4, e21_7, e21_9, e21_12, e21_13, e21_16, e21_19, e21_22, e21_23, e21_24, e21_25, e21_26, e21_29, e21_30, true_or, or_true, true_and, and_true, Option.toList, List.cons_append, List.nil_append, if_true, if_false, reduceIte, wI_get, upd_get, Nat.reduceEqDiff, reduceIte, if_true, if_false, sk3, sr3_0, sk4, r1, (show ¬ nI 2 = (0 : Int32) by decide), (show ¬ nI 2 = (1 : Int32) by decide), eq_true (show nI 2 = (2 : Int32) from rfl), e83, eq_true h83, r3, r4, g8, g0]
    by_cases z1 : 8 ≤ S
    · rw [if_pos z1]; exact h0 (by simp [pst, h83]; omega) _ (chR_rf σ)
    · rw [if_neg z1]
      by_cases z2 : P = 0
      · rw [if_pos z2]; exact h0 (by simp [pst, h83]; omega) _ (chR_rf σ)
      · rw [if_neg z2]
        refine h1 (5, (P, S, w, z, v, a), f, th, lw, an) (by simp [pst, h83]; omega) _ (chR_w (chR_rf σ) (by decide)) ⟨?_, ?_, ?_, ?_, ?_, ?_, ?_, by omega, ?_, by omega, by omega, by omega⟩
        · simp only [wI_get, upd_get, Nat.reduceEqDiff, reduceIte, if_true, if_false]; rfl
        · simp only [wI_get, upd_get, Nat.reduceEqDiff, reduceIte, if_true, if_false]; exact r2
        · simp only [wI_get, upd_get, Nat.reduceEqDiff, reduceIte, if_true, if_false]; exact r3
        · simp only [wI_get, upd_get, Nat.reduceEqDiff, reduceIte, if_true, if_false]; exact r4
        · simp only [wI_get, upd_get, Nat.reduceEqDiff, reduceIte, if_true, if_false]; exact r5
        · simp only [wI_get, upd_get, Nat.reduceEqDiff, reduceIte, if_true, if_false]; exact r6
        · simp only [wI_get, upd_get, Nat.reduceEqDiff, reduceIte, if_true, if_false]; exact r7
        · simp only [wI_get, upd_get, Nat.reduceEqDiff, reduceIte, if_true, if_false]; exact r9
  · by_cases z1 : 6 ≤ P
    · simp only [e18_0, e18_1, e18_4, e18_52, e18_53, e18_54, e18_57, e18_58, e18_59, e18_60, e18_62, e18_63, e18_66, e18_67, e18_68, e18_70, e18_73, e18_74, e18_77, e18_80, e18_81, e18_82, e18_85, e18_86, e18_87, e18_88, e18_90, e18_91, e18_94, e18_95, e18_96, e18_97, e18_99, e18_100, e18_103, e18_104, e18_105, e18_106, e18_108, e18_109, e18_112, e18_113, e18_114, e18_115, e18_117, e18_118, e18_121, e18_122, e18_123, e18_124, e18_126, e18_127, e18_130, e18_131, e18_132, e18_134, e18_137, e18_138, e18_140, e18_143, e18_146, e18_147, e18_148, e18_150, e18_151, e18_154, e22_0, e22_1, e22_4, e22_7, e22_9, e22_12, e22_13, e22_15, e22_18, e22_19, e22_21, e22_24, e22_25, e22_26, e22_27, e22_29, e22_32, e22_33, e22_36, e22_37, e22_40, e22_41, e22_42, e22_45, e22_48, e22_49, e22_50, e22_53, e22_54, e22_55, e22_58, e22_59, true_or, or_true, true_and, and_true, Option.toList, List.cons_append, List.nil_append, if_true, if_false, reduceIte, wI_get, upd_get, Nat.reduceEqDiff, reduceIte, if_true, if_false, sk3, sr3_0, sk4, r1, (show ¬ nI 2 = (0 : Int32) by decide), (show ¬ nI 2 = (1 : Int32) by decide), eq_true (show nI 2 = (2 : Int32) from rfl), e83, h83, r3, g6, eq_true z1]
      exact h0 (by simp [pst, h83]; omega) _ (chR_rf σ)
    · by_cases h80 : b = 80
      · have eth : nI th ||| 1 <<< (nI P &&& 31) = nI (th ||| 2 ^ P) := nI_set (by have := two_le _ i2; omega) (by omega)
        simp only [e18_0, e18_1, e18_4, e18_52, e18_53, e18_54, e18_57, e18_58, e18_59, e18_60, e18_62, e18_63, e18_66, e18_67, e18_68, e18_70, e18_73, e18_74, e18_77, e18_80, e18_81, e18_82, e18_85, e18_86, e18_87, e18_88, e18_90, e18_91, e18_94, e18_95, e18_96, e18_97, e18_99, e18_100, e18_103, e18_104, e18_105, e18_106, e18_108, e18_109, e18_112, e18_113, e18_114, e18_115, e18_117, e18_118, e18_121, e18_122, e18_123, e18_124, e18_126, e18_127, e18_130, e18_131, e18_132, e18_134, e18_137, e18_138, e18_140, e18_143, e18_146, e18_147, e18_148, e18_150, e18_151, e18_154, e22_0, e22_1, e22_4, e22_7, e22_9, e22_12, e22_13, e22_15, e22_18, e22_19, e22_21, e22_24, e22_25, e22_26, e22_27, e22_29, e22_32, e22_33, e22_36, e22_37, e22_40, e22_41, e22_42, e22_45, e22_48, e22_49, e22_50, e22_53, e22_54, e22_55, e22_58, e22_59, true_or, or_true, true_and, and_true, Option.toList, List.cons_append, List.nil_append, if_true, if_false, reduceIte, wI_get, upd_get, Nat.reduceEqDiff, reduceIte, if_true, if_false, sk3, sr3_0, sr3_1, sk4, sk9, r1, (show ¬ nI 2 = (0 : Int32) by decide), (show ¬ nI 2 = (1 : Int32) by decide), eq_true (show nI 2 = (2 : Int32) from rfl), e83, h83, r3, r5, g6, z1, e80, eq_true h80, eth]
        refine h1 (3, (P, S, w, z, v, a), f, th ||| 2 ^ P, lw, an) (by simp [pst, h80]; omega) _ (chR_w (chR_9 (chR_rf σ) (by decide)) (by decide)) ⟨?_, ?_, ?_, ?_, ?_, ?_, ?_, by omega, ?_, by omega, by omega, by omega⟩
        · simp only [wI_get, upd_get, Nat.reduceEqDiff, reduceIte, if_true, if_false]; rfl
        · simp only [wI_get, upd_get, Nat.reduceEqDiff, reduceIte, if_true, if_false]; exact r2
        · simp only [wI_get, upd_get, Nat.reduceEqDiff, reduceIte, if_true, if_false]; exact r3
        · simp only [wI_get, upd_get, Nat.reduceEqDiff, reduceIte, if_true, if_false]; exact r4
        · simp only [wI_get, upd_get, Nat.reduceEqDiff, reduceIte, if_true, if_false]
        · simp only [wI_get, upd_get, Nat.reduceEqDiff, reduceIte, if_true, if_false]; exact r6
        · simp only [wI_get, upd_get, Nat.reduceEqDiff, reduceIte, if_true, if_false]; exact r7
        · simp only [wI_get, upd_get, Nat.reduceEqDiff, reduceIte, if_true, if_false]; exact r9
      · by_cases h65 : b = 65
        · simp only [e18_0, e18_1, e18_4, e18_52, e18_53, e18_54, e18_57, e18_58, e18_59, e18_60, e18_62, e18_63, e18_66, e18_67, e18_68, e18_70, e18_73, e18_74, e18_77, e18_80, e18_81, e18_82, e18_85, e18_86, e18_87, e18_88, e18_90, e18_91, e18_94, e18_95, e18_96, e18_97, e18_99, e18_100, e18_103, e18_104, e18_105, e18_106, e18_108, e18_109, e18_112, e18_113, e18_114, e18_115, e18_117, e18_118, e18_121, e18_122, e18_123, e18_124, e18_126, e18_127, e18_130, e18_131, e18_132, e18_134, e18_137, e18_138, e18_140, e18_143, e18_146, e18_147, e18_148, e18_150, e18_151, e18_154, e22_0, e22_1, e22_4, e22_7, e22_9, e22_12, e22_13, e22_15, e22_18, e22_19, e22_21, e22_24, e22_25, e22_26, e22_27, e22_29, e22_32, e22_33, e22_36, e22_37, e22_40, e22_41, e22_42, e22_45, e22_48, e22_49, e22_50, e22_53, e22_54, e22_55, e22_58, e22_59, true_or, or_true, true_and, and_true, Option.toList, List.cons_append, List.nil_append, if_true, if_false, reduceIte, wI_get, upd_get, Nat.reduceEqDiff, reduceIte, if_true, if_false, sk3, sr3_0, sk4, r1, (show ¬ nI 2 = (0 : Int32) by decide), (show ¬ nI 2 = (1 : Int32) by decide), eq_true (show nI 2 = (2 : Int32) from rfl), e83, h83, r3, g6, z1, e80, h80, e65, eq_true h65]
          refine h1 (3, (P, S, w, z, v, a), f, th, lw, an) (by simp [pst, h65]; omega) _ (chR_w (chR_rf σ) (by decide)) ⟨?_, ?_, ?_, ?_, ?_, ?_, ?_, by omega, ?_, by omega, by omega, by omega⟩
          · simp only [wI_get, upd_get, Nat.reduceEqDiff, reduceIte, if_true, if_false]; rfl
          · simp only [wI_get, upd_get, Nat.reduceEqDiff, reduceIte, if_true, if_false]; exact r2
          · simp only [wI_get, upd_get, Nat.reduceEqDiff, reduceIte, if_true, if_false]; exact r3
          · simp only [wI_get, upd_get, Nat.reduceEqDiff, reduceIte, if_true, if_false]; exact r4
          · simp only [wI_get, upd_get, Nat.reduceEqDiff, reduceIte, if_true, if_false]; exact r5
          · simp only [wI_get, upd_get, Nat.reduceEqDiff, reduceIte, if_true, if_false]; exact r6
          · simp only [wI_get, upd_get, Nat.reduceEqDiff, reduceIte, if_true, if_false]; exact r7
          · simp only [wI_get, upd_get, Nat.reduceEqDiff, reduceIte, if_true, if_false]; exact r9
        · simp only [e18_0, e18_1, e18_4, e18_52, e18_53, e18_54, e18_57, e18_58, e18_59, e18_60, e18_62, e18_63, e18_66, e18_67, e18_68, e18_70, e18_73, e18_74, e18_77, e18_80, e18_81, e18_82, e18_85, e18_86, e18_87, e18_88, e18_90, e18_91, e18_94, e18_95, e18_96, e18_97, e18_99, e18_100, e18_103, e18_104, e18_105, e18_106, e18_108, e18_109, e18_112, e18_113, e18_114, e18_115, e18_117, e18_118, e18_121, e18_122, e18_123, e18_124, e18_126, e18_127, e18_130, e18_131, e18_132, e18_134, e18_137, e18_138, e18_140, e18_143, e18_146, e18_147, e18_148, e18_150, e18_151, e18_154, e22_0, e22_1, e22_4, e22_7, e22_9, e22_12, e22_13, e22_15, e22_18, e22_19, e22_21, e22_24, e22_25, e22_26, e22_27, e22_29, e22_32, e22_33, e22_36, e22_37, e22_40, e22_41, e22_42, e22_45, e22_48, e22_49, e22_50, e22_53, e22_54, e22_55, e22_58, e22_59, true_or, or_true, true_and, and_true, Option.toList, List.cons_append, List.nil_append, if_true, if_false, reduceIte, wI_get, upd_get, Nat.reduceEqDiff, reduceIte, if_true, if_false, sk3, sr3_0, sk4, r1, (show ¬ nI 2 = (0 : Int32) by decide), (show ¬ nI 2 = (1 : Int32) by decide), eq_true (show nI 2 = (2 : Int32) from rfl), e83, h83, r3, g6, z1, e80, h80, e65, h65]
          exact h0 (by simp [pst, h83, h80, h65]) _ (chR_rf σ)
set_option maxHeartbeats 4000000 in
theorem c18_3 {d b P S : Nat} {w z v : Nat → Nat} {a : Nat → Int32} {f : Nat → Nat} {th lw an : Nat} {σ : ab_St} {Q : Option Value → ab_St → Prop} (hI : pI (3, (P, S, w, z, v, a), f, th, lw, an)) (hR : RC σ (3, (P, S, w, z, v, a), f, th, lw, an)) (hb : b < 256) (h1 : ∀ p2, pst (3, (P, S, w, z, v, a), f, th, lw, an) b = some p2 → ∀ τ, chR σ τ → RC τ p2 → Q (some (.int 1)) τ) (h0 : pst (3, (P, S, w, z, v, a), f, th, lw, an) b = none → ∀ τ, chR σ τ → Q (some (.int 0)) τ) : Ev (d + 2) 18 0 [some (.ref 3), some (.int (sb b))] [] σ Q := by
  obtain ⟨r1, r2, r3, r4, r5, r6, r7, r8, r9, r10, r11, r12⟩ := hR
  obtain ⟨i1, i2, i3, i4, i5, i6, i7, i8, i9, i10, i11, i12, i13, i14, i15⟩ := hI
  have hP := i4 (Or.inl rfl)
  have g6 : (nI P < (6 : Int32)) = True := eq_true (nI_lt (a := P) (b := 6) hP (by decide))
  by_cases hd : 48 ≤ b ∧ b ≤ 57
  · have ed := sb_dig ⟨b, hb⟩ hd.1 hd.2
    have n1 : (nI (b - 48) < 0) = False := eq_false (nI_pos (by omega))
    have n2 : ((9 : Int32) < nI (b - 48)) = False := eq_false (nI_nlt (a := 9) (b := b - 48) (by omega) (by decide))
    have em : (10 : Int32) * nI (b - 48) = nI (10 * (b - 48)) := pk_mul 10 (b - 48)
    simp only [e18_0, e18_1, e18_4, e18_52, e18_53, e18_54, e18_57, e18_58, e18_59, e18_60, e18_62, e18_63, e18_66, e18_67, e18_68, e18_70, e18_73, e18_74, e18_77, e18_80, e18_81, e18_82, e18_85, e18_86, e18_87, e18_88, e18_90, e18_91, e18_94, e18_95, e18_96, e18_97, e18_99, e18_100, e18_103, e18_104, e18_105, e18_106, e18_108, e18_109, e18_112, e18_113, e18_114, e18_115, e18_117, e18_118, e18_121, e18_122, e18_123, e18_124, e18_126, e18_127, e18_130, e18_131, e18_132, e18_134, e18_137, e18_138, e18_140, e18_143, e18_146, e18_147, e18_148, e18_150, e18_151, e18_154, e23_0, e23_1, e23_4, e23_5, e23_7, e23_10, e23_11, e23_14, e23_17, e23_19, e23_22, e23_23, e23_24, e23_25, e23_28, e23_31, e23_32, e23_35, e23_38, e23_40, e23_41, e23_42, e23_43, e23_44, e23_45, e23_48, e23_49, true_or, or_true, true_and, and_true, Option.toList, List.cons_append, List.nil_append, if_true, if_false, reduceIte, wI_get, upd_get, Nat.reduceEqDiff, reduceIte, if_true, if_false, sk3, sr3_0, sr3_1, sr9_0, sk4, sk9, sk10, sn10, r1, r3, (show ¬ nI 3 = (0 : Int32) by decide), (show ¬ nI 3 = (1 : Int32) by decide), (show ¬ nI 3 = (2 : Int32) by decide), eq_true (show nI 3 = (3 : Int32) from rfl), ed, n1, n2, g6, em, in_eq (j := P) (n := 6) hP (by decide), nI_clamp (n := P) (by omega)]
    refine h1 (4, (P, S, w, z, v, a), uN f P (10 * (b - 48)), th, lw, an) (by simp [pst]; omega) _ (chR_w (chR_w (chR_rf σ) (by decide)) (by decide)) ⟨?_, ?_, ?_, ?_, ?_, ?_, fun q hq => ?_, fun _ => ?_, ?_, by omega, by omega, by omega⟩
    · simp only [wI_get, upd_get, Nat.reduceEqDiff, reduceIte, if_true, if_false]; rfl
    · simp only [wI_get, upd_get, Nat.reduceEqDiff, reduceIte, if_true, if_false]; exact r2
    · simp only [wI_get, upd_get, Nat.reduceEqDiff, reduceIte, if_true, if_false]; exact r3
    · simp only [wI_get, upd_get, Nat.reduceEqDiff, reduceIte, if_true, if_false]; exact r4
    · simp only [wI_get, upd_get, Nat.reduceEqDiff, reduceIte, if_true, if_false]; exact r5
    · simp only [wI_get, upd_get, Nat.reduceEqDiff, reduceIte, if_true, if_false]; exact r6
    · simp only [wI_get, upd_get, Nat.reduceEqDiff, reduceIte, if_true, if_false]; rw [if_neg (by omega), uN_ne _ _ (by omega)]; exact r7 q hq
    · simp only [wI_get, upd_get, Nat.reduceEqDiff, reduceIte, if_true, if_false]; rw [uN_eq]
    · simp only [wI_get, upd_get, Nat.reduceEqDiff, reduceIte, if_true, if_false]; exact r9
  · have en := sb_no ⟨b, hb⟩ hd
    dsimp only at en
    have n1 : (sb b - 48 < 0) = ((sb b - 48).toInt < 0) := lt0_iff _
    have n2 : ((9 : Int32) < sb b - 48) = (9 < (sb b - 48).toInt) := lt_lit _ _
    simp only [e18_0, e18_1, e18_4, e18_52, e18_53, e18_54, e18_57, e18_58, e18_59, e18_60, e18_62, e18_63, e18_66, e18_67, e18_68, e18_70, e18_73, e18_74, e18_77, e18_80, e18_81, e18_82, e18_85, e18_86, e18_87, e18_88, e18_90, e18_91, e18_94, e18_95, e18_96, e18_97, e18_99, e18_100, e18_103, e18_104, e18_105, e18_106, e18_108, e18_109, e18_112, e18_113, e18_114, e18_115, e18_117, e18_118, e18_121, e18_122, e18_123, e18_124, e18_126, e18_127, e18_130, e18_131, e18_132, e18_134, e18_137, e18_138, e18_140, e18_143, e18_146, e18_147, e18_148, e18_150, e18_151, e18_154, e23_0, e23_1, e23_4, e23_5, e23_7, e23_10, e23_11, e23_14, e23_17, e23_19, e23_22, e23_23, e23_24, e23_25, e23_28, e23_31, e23_32, e23_35, e23_38, e23_40, e23_41, e23_42, e23_43, e23_44, e23_45, e23_48, e23_49, true_or, or_true, true_and, and_true, Option.toList, List.cons_append, List.nil_append, if_true, if_false, reduceIte, wI_get, upd_get, Nat.reduceEqDiff, reduceIte, if_true, if_false, sk3, r1, (show ¬ nI 3 = (0 : Int32) by decide), (show ¬ nI 3 = (1 : Int32) by decide), (show ¬ nI 3 = (2 : Int32) by decide), eq_true (show nI 3 = (3 : Int32) from rfl), n1, n2]
    have hz : Q (some (.int 0)) σ := h0 (by simp [pst]; omega) _ (chR_rf σ)
    by_cases z1 : (sb b - 48).toInt < 0
    · rw [if_pos z1]; exact hz
    · rw [if_neg z1, if_pos (by omega)]; exact hz
set_option maxHeartbeats 4000000 in
theorem c18_4 {d b P S : Nat} {w z v : Nat → Nat} {a : Nat → Int32} {f : Nat → Nat} {th lw an : Nat} {σ : ab_St} {Q : Option Value → ab_St → Prop} (hI : pI (4, (P, S, w, z, v, a), f, th, lw, an)) (hR : RC σ (4, (P, S, w, z, v, a), f, th, lw, an)) (hb : b < 256) (h1 : ∀ p2, pst (4, (P, S, w, z, v, a), f, th, lw, an) b = some p2 → ∀ τ, chR σ τ → RC τ p2 → Q (some (.int 1)) τ) (h0 : pst (4, (P, S, w, z, v, a), f, th, lw, an) b = none → ∀ τ, chR σ τ → Q (some (.int 0)) τ) : Ev (d + 2) 18 0 [some (.ref 3), some (.int (sb b))] [] σ Q := by
  obtain ⟨r1, r2, r3, r4, r5, r6, r7, r8, r9, r10, r11, r12⟩ := hR
  obtain ⟨i1, i2, i3, i4, i5, i6, i7, i8, i9, i10, i11, i12, i13, i14, i15⟩ := hI
  have hP := i4 (Or.inr rfl)
  have g6 : (nI P < (6 : Int32)) = True := eq_true (nI_lt (a := P) (b := 6) hP (by decide))
  have hfP := r8 rfl
  by_cases hd : 48 ≤ b ∧ b ≤ 57
  · have ed := sb_dig ⟨b, hb⟩ hd.1 hd.2
    have n1 : (nI (b - 48) < 0) = False := eq_false (nI_pos (by omega))
    have n2 : ((9 : Int32) < nI (b - 48)) = False := eq_false (nI_nlt (a := 9) (b := b - 48) (by omega) (by decide))
    simp only [e18_0, e18_1, e18_4, e18_52, e18_53, e18_54, e18_57, e18_58, e18_59, e18_60, e18_62, e18_63, e18_66, e18_67, e18_68, e18_70, e18_73, e18_74, e18_77, e18_80, e18_81, e18_82, e18_85, e18_86, e18_87, e18_88, e18_90, e18_91, e18_94, e18_95, e18_96, e18_97, e18_99, e18_100, e18_103, e18_104, e18_105, e18_106, e18_108, e18_109, e18_112, e18_113, e18_114, e18_115, e18_117, e18_118, e18_121, e18_122, e18_123, e18_124, e18_126, e18_127, e18_130, e18_131, e18_132, e18_134, e18_137, e18_138, e18_140, e18_143, e18_146, e18_147, e18_148, e18_150, e18_151, e18_154, e24_0, e24_1, e24_4, e24_5, e24_7, e24_10, e24_11, e24_14, e24_17, e24_19, e24_22, e24_23, e24_24, e24_25, e24_28, e24_31, e24_32, e24_35, e24_38, e24_39, e24_40, e24_41, e24_42, e24_43, e24_44, e24_47, e24_48, e24_51, e24_52, e24_53, e24_56, e24_57, e24_58, e24_61, e24_62, true_or, or_true, true_and, and_true, Option.toList, List.cons_append, List.nil_append, if_true, if_false, reduceIte, wI_get, upd_get, Nat.reduceEqDiff, reduceIte, if_true, if_false, sk3, sr3_0, sr3_1, sr9_0, sk4, sk9, sk10, sn10, r1, r3, (show ¬ nI 4 = (0 : Int32) by decide), (show ¬ nI 4 = (1 : Int32) by decide), (show ¬ nI 4 = (2 : Int32) by decide), (show ¬ nI 4 = (3 : Int32) by decide), eq_true (show nI 4 = (4 : Int32) from rfl), ed, n1, n2, g6, in_eq (j := P) (n := 6) hP (by decide), nI_clamp (n := P) (by omega), hfP, nI_add, nI_1]
    refine h1 (2, (P + 1, S, w, z, v, a), uN f P (f P + (b - 48)), th, lw, an) (by simp [pst]; omega) _ (chR_w (chR_w (chR_w (chR_rf σ) (by decide)) (by decide)) (by decide)) ⟨?_, ?_, ?_, ?_, ?_, ?_, fun q hq => ?_, by omega, ?_, by omega, by omega, by omega⟩
    · simp only [wI_get, upd_get, Nat.reduceEqDiff, reduceIte, if_true, if_false]; rfl
    · simp only [wI_get, upd_get, Nat.reduceEqDiff, reduceIte, if_true, if_false]; exact r2
    · simp only [wI_get, upd_get, Nat.reduceEqDiff, reduceIte, if_true, if_false]
    · simp only [wI_get, upd_get, Nat.reduceEqDiff, reduceIte, if_true, if_false]; exact r4
    · simp only [wI_get, upd_get, Nat.reduceEqDiff, reduceIte, if_true, if_false]; exact r5
    · simp only [wI_get, upd_get, Nat.reduceEqDiff, reduceIte, if_true, if_false]; exact r6
    · simp only [wI_get, upd_get, Nat.reduceEqDiff, reduceIte, if_true, if_false]
      by_cases e : q = P
      · subst e; rw [if_pos rfl, uN_eq]
      · rw [if_neg e, uN_ne _ _ e]; exact r7 q (by omega)
    · simp only [wI_get, upd_get, Nat.reduceEqDiff, reduceIte, if_true, if_false]; exact r9
  · have en := sb_no ⟨b, hb⟩ hd
    dsimp only at en
    have n1 : (sb b - 48 < 0) = ((sb b - 48).toInt < 0) := lt0_iff _
    have n2 : ((9 : Int32) < sb b - 48) = (9 < (sb b - 48).toInt) := lt_lit _ _
    simp only [e18_0, e18_1, e18_4, e18_52, e18_53, e18_54, e18_57, e18_58, e18_59, e18_60, e18_62, e18_63, e18_66, e18_67, e18_68, e18_70, e18_73, e18_74, e18_77, e18_80, e18_81, e18_82, e18_85, e18_86, e18_87, e18_88, e18_90, e18_91, e18_94, e18_95, e18_96, e18_97, e18_99, e18_100, e18_103, e18_104, e18_105, e18_106, e18_108, e18_109, e18_112, e18_113, e18_114, e18_115, e18_117, e18_118, e18_121, e18_122, e18_123, e18_124, e18_126, e18_127, e18_130, e18_131, e18_132, e18_134, e18_137, e18_138, e18_140, e18_143, e18_146, e18_147, e18_148, e18_150, e18_151, e18_154, e24_0, e24_1, e24_4, e24_5, e24_7, e24_10, e24_11, e24_14, e24_17, e24_19, e24_22, e24_23, e24_24, e24_25, e24_28, e24_31, e24_32, e24_35, e24_38, e24_39, e24_40, e24_41, e24_42, e24_43, e24_44, e24_47, e24_48, e24_51, e24_52, e24_53, e24_56, e24_57, e24_58, e24_61, e24_62, true_or, or_true, true_and, and_true, Option.toList, List.cons_append, List.nil_append, if_true, if_false, reduceIte, wI_get, upd_get, Nat.reduceEqDiff, reduceIte, if_true, if_false, sk3, r1, (show ¬ nI 4 = (0 : Int32) by decide), (show ¬ nI 4 = (1 : Int32) by decide), (show ¬ nI 4 = (2 : Int32) by decide), (show ¬ nI 4 = (3 : Int32) by decide), eq_true (show nI 4 = (4 : Int32) from rfl), n1, n2]
    have hz : Q (some (.int 0)) σ := h0 (by simp [pst]; omega) _ (chR_rf σ)
    by_cases z1 : (sb b - 48).toInt < 0
    · rw [if_pos z1]; exact hz
    · rw [if_neg z1, if_pos (by omega)]; exact hz
set_option maxHeartbeats 4000000 in
theorem c18_5 {d b P S : Nat} {w z v : Nat → Nat} {a : Nat → Int32} {f : Nat → Nat} {th lw an : Nat} {σ : ab_St} {Q : Option Value → ab_St → Prop} (hI : pI (5, (P, S, w, z, v, a), f, th, lw, an)) (hR : RC σ (5, (P, S, w, z, v, a), f, th, lw, an)) (hb : b < 256) (h1 : ∀ p2, pst (5, (P, S, w, z, v, a), f, th, lw, an) b = some p2 → ∀ τ, chR σ τ → RC τ p2 → Q (some (.int 1)) τ) (h0 : pst (5, (P, S, w, z, v, a), f, th, lw, an) b = none → ∀ τ, chR σ τ → Q (some (.int 0)) τ) : Ev (d + 2) 18 0 [some (.ref 3), some (.int (sb b))] [] σ Q := by
  obtain ⟨r1, r2, r3, r4, r5, r6, r7, r8, r9, r10, r11, r12⟩ := hR
  obtain ⟨i1, i2, i3, i4, i5, i6, i7, i8, i9, i10, i11, i12, i13, i14, i15⟩ := hI
  have hS := i5 (by decide)
  have g8 : (nI S < (8 : Int32)) = True := eq_true (nI_lt (a := S) (b := 8) hS.1 (by decide))
  by_cases hd : 48 ≤ b ∧ b - 48 < P
  · have ed := sb_dig ⟨b, hb⟩ hd.1 (by dsimp only; omega)
    have hin : inR (nI (b - 48)) P = true := by rw [inR_nI (by omega)]; exact decide_eq_true hd.2
    simp only [e18_0, e18_1, e18_4, e18_52, e18_53, e18_54, e18_57, e18_58, e18_59, e18_60, e18_62, e18_63, e18_66, e18_67, e18_68, e18_70, e18_73, e18_74, e18_77, e18_80, e18_81, e18_82, e18_85, e18_86, e18_87, e18_88, e18_90, e18_91, e18_94, e18_95, e18_96, e18_97, e18_99, e18_100, e18_103, e18_104, e18_105, e18_106, e18_108, e18_109, e18_112, e18_113, e18_114, e18_115, e18_117, e18_118, e18_121, e18_122, e18_123, e18_124, e18_126, e18_127, e18_130, e18_131, e18_132, e18_134, e18_137, e18_138, e18_140, e18_143, e18_146, e18_147, e18_148, e18_150, e18_151, e18_154, e25_0, e25_1, e25_4, e25_5, e25_8, e25_11, e25_12, e25_15, e25_18, e25_20, e25_23, e25_24, e25_25, e25_26, e25_29, e25_32, e25_33, e25_36, e25_39, e25_40, e25_41, e25_42, e25_44, e25_47, e25_48, true_or, or_true, true_and, and_true, Option.toList, List.cons_append, List.nil_append, if_true, if_false, reduceIte, wI_get, upd_get, Nat.reduceEqDiff, reduceIte, if_true, if_false, sk3, sr3_0, sr4_0, sk4, sk5, sn5, r1, r4, (show ¬ nI 5 = (0 : Int32) by decide), (show ¬ nI 5 = (1 : Int32) by decide), (show ¬ nI 5 = (2 : Int32) by decide), (show ¬ nI 5 = (3 : Int32) by decide), (show ¬ nI 5 = (4 : Int32) by decide), eq_true (show nI 5 = (5 : Int32) from rfl), ed, c26 (x := nI (b - 48)) sk4 r3 i2, hin, bI_0, Bool.true_eq_false, g8, in_eq (j := S) (n := 8) hS.1 (by decide), nI_clamp (n := S) (by omega)]
    refine h1 (6, (P, S, uN w S (b - 48), z, v, a), f, th, lw, an) (by simp [pst]; omega) _ (chR_w (chR_w (chR_rf σ) (by decide)) (by decide)) ⟨?_, ?_, ?_, ?_, ?_, ?_, ?_, by omega, fun s hs => ?_, fun _ => ?_, by omega, by omega⟩
    · simp only [wI_get, upd_get, Nat.reduceEqDiff, reduceIte, if_true, if_false]; rfl
    · simp only [wI_get, upd_get, Nat.reduceEqDiff, reduceIte, if_true, if_false]; exact r2
    · simp only [wI_get, upd_get, Nat.reduceEqDiff, reduceIte, if_true, if_false]; exact r3
    · simp only [wI_get, upd_get, Nat.reduceEqDiff, reduceIte, if_true, if_false]; exact r4
    · simp only [wI_get, upd_get, Nat.reduceEqDiff, reduceIte, if_true, if_false]; exact r5
    · simp only [wI_get, upd_get, Nat.reduceEqDiff, reduceIte, if_true, if_false]; exact r6
    · simp only [wI_get, upd_get, Nat.reduceEqDiff, reduceIte, if_true, if_false]; exact r7
    · simp only [wI_get, upd_get, Nat.reduceEqDiff, reduceIte, if_true, if_false]; rw [if_neg (by omega), uN_ne _ _ (by omega)]; exact r9 s hs
    · simp only [wI_get, upd_get, Nat.reduceEqDiff, reduceIte, if_true, if_false]; rw [uN_eq]
  · have hin : inR (sb b - 48) P = false := by
      unfold inR
      refine decide_eq_false (fun z => ?_)
      by_cases hdd : 48 ≤ b ∧ b ≤ 57
      · have ed := sb_dig ⟨b, hb⟩ hdd.1 hdd.2
        dsimp only at ed
        rw [ed, nI_toInt (by omega)] at z
        omega
      · have en := sb_no ⟨b, hb⟩ hdd
        dsimp only at en
        omega
    simp only [e18_0, e18_1, e18_4, e18_52, e18_53, e18_54, e18_57, e18_58, e18_59, e18_60, e18_62, e18_63, e18_66, e18_67, e18_68, e18_70, e18_73, e18_74, e18_77, e18_80, e18_81, e18_82, e18_85, e18_86, e18_87, e18_88, e18_90, e18_91, e18_94, e18_95, e18_96, e18_97, e18_99, e18_100, e18_103, e18_104, e18_105, e18_106, e18_108, e18_109, e18_112, e18_113, e18_114, e18_115, e18_117, e18_118, e18_121, e18_122, e18_123, e18_124, e18_126, e18_127, e18_130, e18_131, e18_132, e18_134, e18_137, e18_138, e18_140, e18_143, e18_146, e18_147, e18_148, e18_150, e18_151, e18_154, e25_0, e25_1, e25_4, e25_5, e25_8, e25_11, e25_12, e25_15, e25_18, e25_20, e25_23, e25_24, e25_25, e25_26, e25_29, e25_32, e25_33, e25_36, e25_39, e25_40, e25_41, e25_42, e25_44, e25_47, e25_48, true_or, or_true, true_and, and_true, Option.toList, List.cons_append, List.nil_append, if_true, if_false, reduceIte, wI_get, upd_get, Nat.reduceEqDiff, reduceIte, if_true, if_false, sk3, sr3_0, sk4, r1, (show ¬ nI 5 = (0 : Int32) by decide), (show ¬ nI 5 = (1 : Int32) by decide), (show ¬ nI 5 = (2 : Int32) by decide), (show ¬ nI 5 = (3 : Int32) by decide), (show ¬ nI 5 = (4 : Int32) by decide), eq_true (show nI 5 = (5 : Int32) from rfl), c26 (x := sb b - 48) sk4 r3 i2, hin, bI_0]
    exact h0 (by simp [pst]; omega) _ (chR_rf σ)
set_option maxHeartbeats 4000000 in
theorem c18_6 {d b P S : Nat} {w z v : Nat → Nat} {a : Nat → Int32} {f : Nat → Nat} {th lw an : Nat} {σ : ab_St} {Q : Option Value → ab_St → Prop} (hI : pI (6, (P, S, w, z, v, a), f, th, lw, an)) (hR : RC σ (6, (P, S, w, z, v, a), f, th, lw, an)) (hb : b < 256) (h1 : ∀ p2, pst (6, (P, S, w, z, v, a), f, th, lw, an) b = some p2 → ∀ τ, chR σ τ → RC τ p2 → Q (some (.int 1)) τ) (h0 : pst (6, (P, S, w, z, v, a), f, th, lw, an) b = none → ∀ τ, chR σ τ → Q (some (.int 0)) τ) : Ev (d + 2) 18 0 [some (.ref 3), some (.int (sb b))] [] σ Q := by
  obtain ⟨r1, r2, r3, r4, r5, r6, r7, r8, r9, r10, r11, r12⟩ := hR
  obtain ⟨i1, i2, i3, i4, i5, i6, i7, i8, i9, i10, i11, i12, i13, i14, i15⟩ := hI
  have hS := i5 (by decide)
  have g8 : (nI S < (8 : Int32)) = True := eq_true (nI_lt (a := S) (b := 8) hS.1 (by decide))
  by_cases hd : 49 ≤ b ∧ b ≤ 57
  · have ed := sb_dig ⟨b, hb⟩ (by dsimp only; omega) hd.2
    have n1 : (nI (b - 48) < (1 : Int32)) = False := eq_false (nI_nlt (a := b - 48) (b := 1) (by omega) (by omega))
    have n2 : ((9 : Int32) < nI (b - 48)) = False := eq_false (nI_nlt (a := 9) (b := b - 48) (by omega) (by decide))
    simp only [e18_0, e18_1, e18_4, e18_52, e18_53, e18_54, e18_57, e18_58, e18_59, e18_60, e18_62, e18_63, e18_66, e18_67, e18_68, e18_70, e18_73, e18_74, e18_77, e18_80, e18_81, e18_82, e18_85, e18_86, e18_87, e18_88, e18_90, e18_91, e18_94, e18_95, e18_96, e18_97, e18_99, e18_100, e18_103, e18_104, e18_105, e18_106, e18_108, e18_109, e18_112, e18_113, e18_114, e18_115, e18_117, e18_118, e18_121, e18_122, e18_123, e18_124, e18_126, e18_127, e18_130, e18_131, e18_132, e18_134, e18_137, e18_138, e18_140, e18_143, e18_146, e18_147, e18_148, e18_150, e18_151, e18_154, e27_0, e27_1, e27_2, e27_5, e27_6, e27_8, e27_11, e27_12, e27_15, e27_18, e27_20, e27_23, e27_24, e27_25, e27_26, e27_29, e27_32, e27_33, e27_36, e27_39, e27_40, e27_41, e27_42, e27_44, e27_47, e27_48, true_or, or_true, true_and, and_true, Option.toList, List.cons_append, List.nil_append, if_true, if_false, reduceIte, wI_get, upd_get, Nat.reduceEqDiff, reduceIte, if_true, if_false, sk3, sr3_0, sr4_1, sk4, sk6, sn6, r1, r4, (show ¬ nI 6 = (0 : Int32) by decide), (show ¬ nI 6 = (1 : Int32) by decide), (show ¬ nI 6 = (2 : Int32) by decide), (show ¬ nI 6 = (3 : Int32) by decide), (show ¬ nI 6 = (4 : Int32) by decide), (show ¬ nI 6 = (5 : Int32) by decide), eq_true (show nI 6 = (6 : Int32) from rfl), ed, n1, n2, g8, in_eq (j := S) (n := 8) hS.1 (by decide), nI_clamp (n := S) (by omega)]
    refine h1 (7, (P, S, w, uN z S (b - 48), v, a), f, th, lw, an) (by simp [pst]; omega) _ (chR_w (chR_w (chR_rf σ) (by decide)) (by decide)) ⟨?_, ?_, ?_, ?_, ?_, ?_, ?_, by omega, fun s hs => ?_, fun _ => ?_, fun _ => ?_, ?_⟩
    · simp only [wI_get, upd_get, Nat.reduceEqDiff, reduceIte, if_true, if_false]; rfl
    · simp only [wI_get, upd_get, Nat.reduceEqDiff, reduceIte, if_true, if_false]; exact r2
    · simp only [wI_get, upd_get, Nat.reduceEqDiff, reduceIte, if_true, if_false]; exact r3
    · simp only [wI_get, upd_get, Nat.reduceEqDiff, reduceIte, if_true, if_false]; exact r4
    · simp only [wI_get, upd_get, Nat.reduceEqDiff, reduceIte, if_true, if_false]; exact r5
    · simp only [wI_get, upd_get, Nat.reduceEqDiff, reduceIte, if_true, if_false]; exact r6
    · simp only [wI_get, upd_get, Nat.reduceEqDiff, reduceIte, if_true, if_false]; exact r7
    · simp only [wI_get, upd_get, Nat.reduceEqDiff, reduceIte, if_true, if_false]; rw [if_neg (by omega), uN_ne _ _ (by omega)]; exact r9 s hs
    · simp only [wI_get, upd_get, Nat.reduceEqDiff, reduceIte, if_true, if_false]; exact r10 (by decide)
    · simp only [wI_get, upd_get, Nat.reduceEqDiff, reduceIte, if_true, if_false]; rw [uN_eq]
    · omega
  · have hz : Q (some (.int 0)) σ := h0 (by simp [pst]; omega) _ (chR_rf σ)
    have n1 : (sb b - 48 < (1 : Int32)) = ((sb b - 48).toInt < 1) := lt_lit _ _
    have n2 : ((9 : Int32) < sb b - 48) = (9 < (sb b - 48).toInt) := lt_lit _ _
    have en : (sb b - 48).toInt < 1 ∨ 9 < (sb b - 48).toInt := by
      by_cases hdd : 48 ≤ b ∧ b ≤ 57
      · have ed := sb_dig ⟨b, hb⟩ hdd.1 hdd.2
        dsimp only at ed
        rw [ed, nI_toInt (by omega)]
        omega
      · have en := sb_no ⟨b, hb⟩ hdd
        dsimp only at en
        omega
    simp only [e18_0, e18_1, e18_4, e18_52, e18_53, e18_54, e18_57, e18_58, e18_59, e18_60, e18_62, e18_63, e18_66, e18_67, e18_68, e18_70, e18_73, e18_74, e18_77, e18_80, e18_81, e18_82, e18_85, e18_86, e18_87, e18_88, e18_90, e18_91, e18_94, e18_95, e18_96, e18_97, e18_99, e18_100, e18_103, e18_104, e18_105, e18_106, e18_108, e18_109, e18_112, e18_113, e18_114, e18_115, e18_117, e18_118, e18_121, e18_122, e18_123, e18_124, e18_126, e18_127, e18_130, e18_131, e18_132, e18_134, e18_137, e18_138, e18_140, e18_143, e18_146, e18_147, e18_148, e18_150, e18_151, e18_154, e27_0, e27_1, e27_2, e27_5, e27_6, e27_8, e27_11, e27_12, e27_15, e27_18, e27_20, e27_23, e27_24, e27_25, e27_26, e27_29, e27_32, e27_33, e27_36, e27_39, e27_40, e27_41, e27_42, e27_44, e27_47, e27_48, true_or, or_true, true_and, and_true, Option.toList, List.cons_append, List.nil_append, if_true, if_false, reduceIte, wI_get, upd_get, Nat.reduceEqDiff, reduceIte, if_true, if_false, sk3, r1, (show ¬ nI 6 = (0 : Int32) by decide), (show ¬ nI 6 = (1 : Int32) by decide), (show ¬ nI 6 = (2 : Int32) by decide), (show ¬ nI 6 = (3 : Int32) by decide), (show ¬ nI 6 = (4 : Int32) by decide), (show ¬ nI 6 = (5 : Int32) by decide), eq_true (show nI 6 = (6 : Int32) from rfl), n1, n2]
    by_cases z1 : (sb b - 48).toInt < 1
    · rw [if_pos z1]; exact hz
    · rw [if_neg z1, if_pos (by omega)]; exact hz
set_option maxHeartbeats 4000000 in
theorem c18_7 {d b P S : Nat} {w z v : Nat → Nat} {a : Nat → Int32} {f : Nat → Nat} {th lw an : Nat} {σ : ab_St} {Q : Option Value → ab_St → Prop} (hI : pI (7, (P, S, w, z, v, a), f, th, lw, an)) (hR : RC σ (7, (P, S, w, z, v, a), f, th, lw, an)) (hb : b < 256) (h1 : ∀ p2, pst (7, (P, S, w, z, v, a), f, th, lw, an) b = some p2 → ∀ τ, chR σ τ → RC τ p2 → Q (some (.int 1)) τ) (h0 : pst (7, (P, S, w, z, v, a), f, th, lw, an) b = none → ∀ τ, chR σ τ → Q (some (.int 0)) τ) : Ev (d + 2) 18 0 [some (.ref 3), some (.int (sb b))] [] σ Q := by
  obtain ⟨r1, r2, r3, r4, r5, r6, r7, r8, r9, r10, r11, r12⟩ := hR
  obtain ⟨i1, i2, i3, i4, i5, i6, i7, i8, i9, i10, i11, i12, i13, i14, i15⟩ := hI
  have hS := i5 (by decide)
  have g8 : (nI S < (8 : Int32)) = True := eq_true (nI_lt (a := S) (b := 8) hS.1 (by decide))
  by_cases hd : 48 ≤ b ∧ b ≤ 57
  · have ed := sb_dig ⟨b, hb⟩ (by dsimp only; omega) hd.2
    have n1 : (nI (b - 48) < 0) = False := eq_false (nI_pos (by omega))
    have n2 : ((9 : Int32) < nI (b - 48)) = False := eq_false (nI_nlt (a := 9) (b := b - 48) (by omega) (by decide))
    simp only [e18_0, e18_1, e18_4, e18_52, e18_53, e18_54, e18_57, e18_58, e18_59, e18_60, e18_62, e18_63, e18_66, e18_67, e18_68, e18_70, e18_73, e18_74, e18_77, e18_80, e18_81, e18_82, e18_85, e18_86, e18_87, e18_88, e18_90, e18_91, e18_94, e18_95, e18_96, e18_97, e18_99, e18_100, e18_103, e18_104, e18_105, e18_106, e18_108, e18_109, e18_112, e18_113, e18_114, e18_115, e18_117, e18_118, e18_121, e18_122, e18_123, e18_124, e18_126, e18_127, e18_130, e18_131, e18_132, e18_134, e18_137, e18_138, e18_140, e18_143, e18_146, e18_147, e18_148, e18_150, e18_151, e18_154, e28_0, e28_1, e28_4, e28_5, e28_7, e28_10, e28_11, e28_14, e28_17, e28_19, e28_22, e28_23, e28_24, e28_25, e28_28, e28_31, e28_32, e28_35, e28_38, e28_39, e28_40, e28_41, e28_43, e28_46, e28_47, true_or, or_true, true_and, and_true, Option.toList, List.cons_append, List.nil_append, if_true, if_false, reduceIte, wI_get, upd_get, Nat.reduceEqDiff, reduceIte, if_true, if_false, sk3, sr3_0, sr4_2, sk4, sk7, sn7, r1, r4, (show ¬ nI 7 = (0 : Int32) by decide), (show ¬ nI 7 = (1 : Int32) by decide), (show ¬ nI 7 = (2 : Int32) by decide), (show ¬ nI 7 = (3 : Int32) by decide), (show ¬ nI 7 = (4 : Int32) by decide), (show ¬ nI 7 = (5 : Int32) by decide), (show ¬ nI 7 = (6 : Int32) by decide), eq_true (show nI 7 = (7 : Int32) from rfl), ed, n1, n2, g8, in_eq (j := S) (n := 8) hS.1 (by decide), nI_clamp (n := S) (by omega)]
    refine h1 (8, (P, S, w, z, uN v S (b - 48), a), f, th, lw, an) (by simp [pst]; omega) _ (chR_w (chR_w (chR_rf σ) (by decide)) (by decide)) ⟨?_, ?_, ?_, ?_, ?_, ?_, ?_, by omega, fun s hs => ?_, fun _ => ?_, fun _ => ?_, ?_⟩
    · simp only [wI_get, upd_get, Nat.reduceEqDiff, reduceIte, if_true, if_false]; rfl
    · simp only [wI_get, upd_get, Nat.reduceEqDiff, reduceIte, if_true, if_false]; exact r2
    · simp only [wI_get, upd_get, Nat.reduceEqDiff, reduceIte, if_true, if_false]; exact r3
    · simp only [wI_get, upd_get, Nat.reduceEqDiff, reduceIte, if_true, if_false]; exact r4
    · simp only [wI_get, upd_get, Nat.reduceEqDiff, reduceIte, if_true, if_false]; exact r5
    · simp only [wI_get, upd_get, Nat.reduceEqDiff, reduceIte, if_true, if_false]; exact r6
    · simp only [wI_get, upd_get, Nat.reduceEqDiff, reduceIte, if_true, if_false]; exact r7
    · simp only [wI_get, upd_get, Nat.reduceEqDiff, reduceIte, if_true, if_false]; rw [if_neg (by omega), uN_ne _ _ (by omega)]; exact r9 s hs
    · simp only [wI_get, upd_get, Nat.reduceEqDiff, reduceIte, if_true, if_false]; exact r10 (by decide)
    · simp only [wI_get, upd_get, Nat.reduceEqDiff, reduceIte, if_true, if_false]; exact r11 (by decide)
    · intro _; simp only [wI_get, upd_get, Nat.reduceEqDiff, reduceIte, if_true, if_false]; rw [uN_eq]
  · have en := sb_no ⟨b, hb⟩ hd
    dsimp only at en
    have n1 : (sb b - 48 < 0) = ((sb b - 48).toInt < 0) := lt0_iff _
    have n2 : ((9 : Int32) < sb b - 48) = (9 < (sb b - 48).toInt) := lt_lit _ _
    simp only [e18_0, e18_1, e18_4, e18_52, e18_53, e18_54, e18_57, e18_58, e18_59, e18_60, e18_62, e18_63, e18_66, e18_67, e18_68, e18_70, e18_73, e18_74, e18_77, e18_80, e18_81, e18_82, e18_85, e18_86, e18_87, e18_88, e18_90, e18_91, e18_94, e18_95, e18_96, e18_97, e18_99, e18_100, e18_103, e18_104, e18_105, e18_106, e18_108, e18_109, e18_112, e18_113, e18_114, e18_115, e18_117, e18_118, e18_121, e18_122, e18_123, e18_124, e18_126, e18_127, e18_130, e18_131, e18_132, e18_134, e18_137, e18_138, e18_140, e18_143, e18_146, e18_147, e18_148, e18_150, e18_151, e18_154, e28_0, e28_1, e28_4, e28_5, e28_7, e28_10, e28_11, e28_14, e28_17, e28_19, e28_22, e28_23, e28_24, e28_25, e28_28, e28_31, e28_32, e28_35, e28_38, e28_39, e28_40, e28_41, e28_43, e28_46, e28_47, true_or, or_true, true_and, and_true, Option.toList, List.cons_append, List.nil_append, if_true, if_false, reduceIte, wI_get, upd_get, Nat.reduceEqDiff, reduceIte, if_true, if_false, sk3, r1, (show ¬ nI 7 = (0 : Int32) by decide), (show ¬ nI 7 = (1 : Int32) by decide), (show ¬ nI 7 = (2 : Int32) by decide), (show ¬ nI 7 = (3 : Int32) by decide), (show ¬ nI 7 = (4 : Int32) by decide), (show ¬ nI 7 = (5 : Int32) by decide), (show ¬ nI 7 = (6 : Int32) by decide), eq_true (show nI 7 = (7 : Int32) from rfl), n1, n2]
    have hz : Q (some (.int 0)) σ := h0 (by simp [pst]; omega) _ (chR_rf σ)
    by_cases z1 : (sb b - 48).toInt < 0
    · rw [if_pos z1]; exact hz
    · rw [if_neg z1, if_pos (by omega)]; exact hz
set_option maxHeartbeats 4000000 in
theorem c18_8 {d b P S : Nat} {w z v : Nat → Nat} {a : Nat → Int32} {f : Nat → Nat} {th lw an : Nat} {σ : ab_St} {Q : Option Value → ab_St → Prop} (hI : pI (8, (P, S, w, z, v, a), f, th, lw, an)) (hR : RC σ (8, (P, S, w, z, v, a), f, th, lw, an)) (hb : b < 256) (h1 : ∀ p2, pst (8, (P, S, w, z, v, a), f, th, lw, an) b = some p2 → ∀ τ, chR σ τ → RC τ p2 → Q (some (.int 1)) τ) (h0 : pst (8, (P, S, w, z, v, a), f, th, lw, an) b = none → ∀ τ, chR σ τ → Q (some (.int 0)) τ) : Ev (d + 2) 18 0 [some (.ref 3), some (.int (sb b))] [] σ Q := by
  obtain ⟨r1, r2, r3, r4, r5, r6, r7, r8, r9, r10, r11, r12⟩ := hR
  obtain ⟨i1, i2, i3, i4, i5, i6, i7, i8, i9, i10, i11, i12, i13, i14, i15⟩ := hI
  have hS := i5 (by decide)
  have g8 : (nI S < (8 : Int32)) = True := eq_true (nI_lt (a := S) (b := 8) hS.1 (by decide))
  have e45 := propext (sb_45 ⟨b, hb⟩)
  dsimp only at e45
  have hrc : ∀ (x : Int32) (an2 : Nat) (τ : ab_St), τ.1 3 2 = 2 → τ.1 3 3 = nI an2 → τ.1 4 = upd (σ.1 4) 5 (nI (S + 1)) → τ.1 9 = σ.1 9 → τ.1 10 = σ.1 10 → τ.1 5 = σ.1 5 → τ.1 6 = σ.1 6 → τ.1 7 = σ.1 7 → τ.1 8 = upd (σ.1 8) S x → RC τ (2, (P, S + 1, w, z, v, upd a S x), f, th, lw, an2) := by
    intro x an2 τ t1 t2 t3 t4 t5 t6 t7 t8 t9
    refine ⟨t1, t2, by rw [t3, upd_ne _ _ (by decide)]; exact r3, by rw [t3, upd_eq], by rw [t4]; exact r5, by rw [t4]; exact r6, by rw [t5]; exact r7, by omega, fun s hs => ?_, by omega, by omega, by omega⟩
    rw [t6, t7, t8, t9]
    by_cases e : s = S
    · subst e; rw [upd_eq, upd_eq]; exact ⟨r10 (by decide), r11 (by decide), r12 (by decide), rfl⟩
    · rw [upd_ne _ _ e, upd_ne _ _ e]; exact r9 s (by omega)
  by_cases h45 : b = 45
  · simp only [e18_0, e18_1, e18_4, e18_52, e18_53, e18_54, e18_57, e18_58, e18_59, e18_60, e18_62, e18_63, e18_66, e18_67, e18_68, e18_70, e18_73, e18_74, e18_77, e18_80, e18_81, e18_82, e18_85, e18_86, e18_87, e18_88, e18_90, e18_91, e18_94, e18_95, e18_96, e18_97, e18_99, e18_100, e18_103, e18_104, e18_105, e18_106, e18_108, e18_109, e18_112, e18_113, e18_114, e18_115, e18_117, e18_118, e18_121, e18_122, e18_123, e18_124, e18_126, e18_127, e18_130, e18_131, e18_132, e18_134, e18_137, e18_138, e18_140, e18_143, e18_146, e18_147, e18_148, e18_150, e18_151, e18_154, e29_0, e29_1, e29_4, e29_7, e29_9, e29_12, e29_13, e29_14, e29_15, e29_18, e29_21, e29_22, e29_25, e29_28, e29_29, e29_30, e29_31, e29_34, e29_35, e29_38, e29_39, e29_40, e29_43, e29_44, e29_45, e29_48, e29_49, true_or, or_true, true_and, and_true, Option.toList, List.cons_append, List.nil_append, if_true, if_false, reduceIte, wI_get, upd_get, Nat.reduceEqDiff, reduceIte, if_true, if_false, sk3, sr3_0, sr4_3, sk4, sk8, sn8, r1, r4, (show ¬ nI 8 = (0 : Int32) by decide), (show ¬ nI 8 = (1 : Int32) by decide), (show ¬ nI 8 = (2 : Int32) by decide), (show ¬ nI 8 = (3 : Int32) by decide), (show ¬ nI 8 = (4 : Int32) by decide), (show ¬ nI 8 = (5 : Int32) by decide), (show ¬ nI 8 = (6 : Int32) by decide), (show ¬ nI 8 = (7 : Int32) by decide), e45, eq_true h45, g8, in_eq (j := S) (n := 8) hS.1 (by decide), nI_clamp (n := S) (by omega), nI_1]
    refine h1 (2, (P, S + 1, w, z, v, upd a S (-9)), f, th, lw, an) (by simp [pst, h45]) _ (chR_w (chR_w (chR_w (chR_rf σ) (by decide)) (by decide)) (by decide)) (hrc (-9) an _ ?_ ?_ ?_ ?_ ?_ ?_ ?_ ?_ ?_)
    · simp only [wI_get, upd_get, Nat.reduceEqDiff, reduceIte, if_true, if_false]
    · simp only [wI_get, upd_get, Nat.reduceEqDiff, reduceIte, if_true, if_false]; exact r2
    · simp only [wI_get, upd_get, Nat.reduceEqDiff, reduceIte, if_true, if_false]
    · simp only [wI_get, upd_get, Nat.reduceEqDiff, reduceIte, if_true, if_false]
    · simp only [wI_get, upd_get, Nat.reduceEqDiff, reduceIte, if_true, if_false]
    · simp only [wI_get, upd_get, Nat.reduceEqDiff, reduceIte, if_true, if_false]
    · simp only [wI_get, upd_get, Nat.reduceEqDiff, reduceIte, if_true, if_false]
    · simp only [wI_get, upd_get, Nat.reduceEqDiff, reduceIte, if_true, if_false]
    · simp only [wI_get, upd_get, Nat.reduceEqDiff, reduceIte, if_true, if_false]
  · by_cases hd : 48 ≤ b ∧ b - 48 < S
    · have ed := sb_dig ⟨b, hb⟩ hd.1 (by dsimp only; omega)
      have hin : inR (nI (b - 48)) S = true := by rw [inR_nI (by omega)]; exact decide_eq_true hd.2
      have han : an < 2 ^ 8 := Nat.lt_of_lt_of_le i14 (two_le8 _ i3)
      cases hbt : an.testBit (b - 48)
      · have ean : nI an ||| 1 <<< (nI (b - 48) &&& 31) = nI (an ||| 2 ^ (b - 48)) := nI_set (by omega) (by omega)
        simp only [e18_0, e18_1, e18_4, e18_52, e18_53, e18_54, e18_57, e18_58, e18_59, e18_60, e18_62, e18_63, e18_66, e18_67, e18_68, e18_70, e18_73, e18_74, e18_77, e18_80, e18_81, e18_82, e18_85, e18_86, e18_87, e18_88, e18_90, e18_91, e18_94, e18_95, e18_96, e18_97, e18_99, e18_100, e18_103, e18_104, e18_105, e18_106, e18_108, e18_109, e18_112, e18_113, e18_114, e18_115, e18_117, e18_118, e18_121, e18_122, e18_123, e18_124, e18_126, e18_127, e18_130, e18_131, e18_132, e18_134, e18_137, e18_138, e18_140, e18_143, e18_146, e18_147, e18_148, e18_150, e18_151, e18_154, e30_0, e30_1, e30_4, e30_5, e30_8, e30_11, e30_12, e30_15, e30_16, e30_19, e30_22, e30_23, e30_24, e30_25, e30_26, e30_29, e30_30, e30_31, e30_32, e30_33, e30_36, e30_37, e30_38, e30_41, e29_0, e29_1, e29_4, e29_7, e29_9, e29_12, e29_13, e29_14, e29_15, e29_18, e29_21, e29_22, e29_25, e29_28, e29_29, e29_30, e29_31, e29_34, e29_35, e29_38, e29_39, e29_40, e29_43, e29_44, e29_45, e29_48, e29_49, true_or, or_true, true_and, and_true, Option.toList, List.cons_append, List.nil_append, if_true, if_false, reduceIte, wI_get, upd_get, Nat.reduceEqDiff, reduceIte, if_true, if_false, sk3, sr3_0, sr4_3, sk4, sk8, sn8, r1, r4, (show ¬ nI 8 = (0 : Int32) by decide), (show ¬ nI 8 = (1 : Int32) by decide), (show ¬ nI 8 = (2 : Int32) by decide), (show ¬ nI 8 = (3 : Int32) by decide), (show ¬ nI 8 = (4 : Int32) by decide), (show ¬ nI 8 = (5 : Int32) by decide), (show ¬ nI 8 = (6 : Int32) by decide), (show ¬ nI 8 = (7 : Int32) by decide), e45, h45, ed, c31 (x := nI (b - 48)) sk4 r4 i3, hin, bI_0, Bool.true_eq_false, r2, c32 (s := an) (k := b - 48) (by omega) (by omega), hbt, ean, g8, in_eq (j := S) (n := 8) hS.1 (by decide), nI_clamp (n := S) (by omega), nI_1]
        refine h1 (2, (P, S + 1, w, z, v, upd a S (nI (b - 48))), f, th, lw, an ||| 2 ^ (b - 48)) (by simp [pst, h45, hbt]; omega) _ (chR_w (chR_w (chR_w (chR_w (chR_rf σ) (by decide)) (by decide)) (by decide)) (by decide)) (hrc (nI (b - 48)) (an ||| 2 ^ (b - 48)) _ ?_ ?_ ?_ ?_ ?_ ?_ ?_ ?_ ?_)
        · simp only [wI_get, upd_get, Nat.reduceEqDiff, reduceIte, if_true, if_false]
        · simp only [wI_get, upd_get, Nat.reduceEqDiff, reduceIte, if_true, if_false]
        · simp only [wI_get, upd_get, Nat.reduceEqDiff, reduceIte, if_true, if_false]
        · simp only [wI_get, upd_get, Nat.reduceEqDiff, reduceIte, if_true, if_false]
        · simp only [wI_get, upd_get, Nat.reduceEqDiff, reduceIte, if_true, if_false]
        · simp only [wI_get, upd_get, Nat.reduceEqDiff, reduceIte, if_true, if_false]
        · simp only [wI_get, upd_get, Nat.reduceEqDiff, reduceIte, if_true, if_false]
        · simp only [wI_get, upd_get, Nat.reduceEqDiff, reduceIte, if_true, if_false]
        · simp only [wI_get, upd_get, Nat.reduceEqDiff, reduceIte, if_true, if_false]
      · simp only [e18_0, e18_1, e18_4, e18_52, e18_53, e18_54, e18_57, e18_58, e18_59, e18_60, e18_62, e18_63, e18_66, e18_67, e18_68, e18_70, e18_73, e18_74, e18_77, e18_80, e18_81, e18_82, e18_85, e18_86, e18_87, e18_88, e18_90, e18_91, e18_94, e18_95, e18_96, e18_97, e18_99, e18_100, e18_103, e18_104, e18_105, e18_106, e18_108, e18_109, e18_112, e18_113, e18_114, e18_115, e18_117, e18_118, e18_121, e18_122, e18_123, e18_124, e18_126, e18_127, e18_130, e18_131, e18_132, e18_134, e18_137, e18_138, e18_140, e18_143, e18_146, e18_147, e18_148, e18_150, e18_151, e18_154, e30_0, e30_1, e30_4, e30_5, e30_8, e30_11, e30_12, e30_15, e30_16, e30_19, e30_22, e30_23, e30_24, e30_25, e30_26, e30_29, e30_30, e30_31, e30_32, e30_33, e30_36, e30_37, e30_38, e30_41, true_or, or_true, true_and, and_true, Option.toList, List.cons_append, List.nil_append, if_true, if_false, reduceIte, wI_get, upd_get, Nat.reduceEqDiff, reduceIte, if_true, if_false, sk3, sr3_0, sk4, r1, (show ¬ nI 8 = (0 : Int32) by decide), (show ¬ nI 8 = (1 : Int32) by decide), (show ¬ nI 8 = (2 : Int32) by decide), (show ¬ nI 8 = (3 : Int32) by decide), (show ¬ nI 8 = (4 : Int32) by decide), (show ¬ nI 8 = (5 : Int32) by decide), (show ¬ nI 8 = (6 : Int32) by decide), (show ¬ nI 8 = (7 : Int32) by decide), e45, h45, ed, c31 (x := nI (b - 48)) sk4 r4 i3, hin, bI_0, Bool.true_eq_false, r2, c32 (s := an) (k := b - 48) (by omega) (by omega), hbt]
        exact h0 (by simp [pst, h45, hbt]) _ (chR_rf σ)
    · have hin : inR (sb b - 48) S = false := by
        unfold inR
        refine decide_eq_false (fun z => ?_)
        by_cases hdd : 48 ≤ b ∧ b ≤ 57
        · have ed := sb_dig ⟨b, hb⟩ hdd.1 hdd.2
          dsimp only at ed
          rw [ed, nI_toInt (by omega)] at z
          omega
        · have en := sb_no ⟨b, hb⟩ hdd
          dsimp only at en
          omega
      simp only [e18_0, e18_1, e18_4, e18_52, e18_53, e18_54, e18_57, e18_58, e18_59, e18_60, e18_62, e18_63, e18_66, e18_67, e18_68, e18_70, e18_73, e18_74, e18_77, e18_80, e18_81, e18_82, e18_85, e18_86, e18_87, e18_88, e18_90, e18_91, e18_94, e18_95, e18_96, e18_97, e18_99, e18_100, e18_103, e18_104, e18_105, e18_106, e18_108, e18_109, e18_112, e18_113, e18_114, e18_115, e18_117, e18_118, e18_121, e18_122, e18_123, e18_124, e18_126, e18_127, e18_130, e18_131, e18_132, e18_134, e18_137, e18_138, e18_140, e18_143, e18_146, e18_147, e18_148, e18_150, e18_151, e18_154, e30_0, e30_1, e30_4, e30_5, e30_8, e30_11, e30_12, e30_15, e30_16, e30_19, e30_22, e30_23, e30_24, e30_25, e30_26, e30_29, e30_30, e30_31, e30_32, e30_33, e30_36, e30_37, e30_38, e30_41, true_or, or_true, true_and, and_true, Option.toList, List.cons_append, List.nil_append, if_true, if_false, reduceIte, wI_get, upd_get, Nat.reduceEqDiff, reduceIte, if_true, if_false, sk3, sr3_0, sk4, r1, (show ¬ nI 8 = (0 : Int32) by decide), (show ¬ nI 8 = (1 : Int32) by decide), (show ¬ nI 8 = (2 : Int32) by decide), (show ¬ nI 8 = (3 : Int32) by decide), (show ¬ nI 8 = (4 : Int32) by decide), (show ¬ nI 8 = (5 : Int32) by decide), (show ¬ nI 8 = (6 : Int32) by decide), (show ¬ nI 8 = (7 : Int32) by decide), e45, h45, c31 (x := sb b - 48) sk4 r4 i3, hin, bI_0]
      exact h0 (by simp [pst, h45]; omega) _ (chR_rf σ)
/-- Reader.takes -/
theorem c18 {d b : Nat} {p : pS} {σ : ab_St} {Q : Option Value → ab_St → Prop} (hI : pI p) (hR : RC σ p) (hb : b < 256) (h1 : ∀ p2, pst p b = some p2 → ∀ τ, chR σ τ → RC τ p2 → Q (some (.int 1)) τ) (h0 : pst p b = none → ∀ τ, chR σ τ → Q (some (.int 0)) τ) : Ev (d + 2) 18 0 [some (.ref 3), some (.int (sb b))] [] σ Q := by
  obtain ⟨due, ⟨P, S, w, z, v, a⟩, f, th, lw, an⟩ := p
  have h8 : due ≤ 8 := hI.1
  match due, h8 with
  | 0, _ => exact c18_0 hI hR hb h1 h0
  | 1, _ => exact c18_1 hI hR hb h1 h0
  | 2, _ => exact c18_2 hI hR hb h1 h0
  | 3, _ => exact c18_3 hI hR hb h1 h0
  | 4, _ => exact c18_4 hI hR hb h1 h0
  | 5, _ => exact c18_5 hI hR hb h1 h0
  | 6, _ => exact c18_6 hI hR hb h1 h0
  | 7, _ => exact c18_7 hI hR hb h1 h0
  | 8, _ => exact c18_8 hI hR hb h1 h0
