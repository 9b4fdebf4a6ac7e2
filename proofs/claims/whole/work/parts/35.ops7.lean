/-! UNDO -/
/-- behind Acts.takeBack -/
def tkb (σ : ab_St) (pl q k : Nat) : ab_St := ab_wI (ab_wI (ab_wI σ 20 (upd (σ.1 20) 6 (nI k))) 17 (upd (σ.1 17) q (σ.1 22 pl))) 16 (upd (upd (upd (σ.1 16) 1 (σ.1 23 pl)) 2 (σ.1 24 pl)) 3 (σ.1 25 pl))
set_option maxHeartbeats 4000000 in
theorem c59 {d fi k q pl : Nat} {σ : ab_St} {Q : Option Value → ab_St → Prop} (v5 : σ.1 20 5 = nI fi) (v6 : σ.1 20 6 = nI (k + 1)) (hfi : fi < 12) (hk : k < 12) (hpl : (fi + k) % 12 = pl) (v21 : σ.1 21 pl = nI q) (hq : q < 6) : Ev d 59 0 [some (.ref 20), some (.ref 16), none] [] σ Q = Q none (tkb σ pl q k) := by
  have hs := rem12 (a := fi + k) (by omega)
  have n12 : ¬ (12 : Int32) = 0 := by decide
  have hp12 : pl < 12 := by omega
  have e1 : nI (k + 1) - 1 = nI k := nI_pred k
  simp only [e59_0, e59_1, e59_2, e59_5, e59_6, e59_7, e59_10, e59_11, e59_14, e59_15, e59_18, e59_19, e59_21, e59_22, e59_23, e59_24, e59_27, e59_28, e59_31, e59_32, e59_33, e59_34, e59_37, e59_38, e59_39, e59_40, e59_41, e59_42, e59_45, e59_46, e59_47, e59_50, e59_51, e59_52, e59_55, e59_56, e59_57, e59_60, e59_61, e59_62, e59_65, e59_66, e59_67, e59_70, true_or, or_true, true_and, and_true, Option.toList, List.cons_append, List.nil_append, if_true, if_false, reduceIte, sk20, sk16, sk17, sn17, sr16_0, sk21, sn21, sk22, sn22, sk23, sn23, sk24, sn24, sk25, sn25, sr20_0, sr20_1, sr20_2, sr20_3, sr20_4, v5, v6, e1, wI_get, upd_get, Nat.reduceEqDiff, reduceIte, if_true, if_false, nI_add, n12, not_false_eq_true, hs, hpl, in_eq (j := pl) (n := 12) hp12 (by decide), nI_clamp (n := pl) (by omega), v21, in_eq (j := q) (n := 6) hq (by decide), nI_clamp (n := q) (by omega), wI_wI]
  rfl
set_option maxHeartbeats 8000000 in
theorem op_undo {B : Nat} {σ : ab_St} (hI : Inv B σ) : op2 B σ 58 [some (.ref 0)] 130 [some (.ref 50)] := by
  obtain ⟨tn, tx, t, f, th, sd, la, lw, h, ⟨ac, fi, hw, hf, hth, hsd, hla, ha⟩, ks, hk⟩ := id hI
  obtain ⟨h1, h2, h3, h4, h5, h6, h7⟩ := id h
  have hP := h1.1
  have s0 : sam σ (ab_wI σ 50 (upd (σ.1 50) 0 0)) := sam_50 (by decide)
  obtain ⟨a1, a2, a3, a4, a5, a6, a7, a8⟩ := ha
  cases ac with
  | zero =>
    refine op2_q (.int (-3)) hI ?_
    simp only [e58_0, e58_1, e58_4, e58_7, e58_10, e58_12, e58_13, e58_14, e58_17, e58_18, e58_21, e58_24, e58_25, e58_28, e58_31, true_or, or_true, true_and, and_true, Option.toList, List.cons_append, List.nil_append, if_true, if_false, reduceIte, sk0, sr0_5, sk20, a4, show nI 0 = (0 : Int32) from rfl]
    refine ⟨sam_rf σ, ?_⟩
    simp only [e130_0, e130_1, e130_2, e130_5, e130_6, e130_9, e130_12, e130_14, e130_15, e130_16, e130_17, e130_20, e130_21, e130_22, e130_25, e130_26, e130_27, e130_30, e130_32, e130_33, e130_36, e130_37, e130_40, e130_41, e130_44, true_or, or_true, true_and, and_true, Option.toList, List.cons_append, List.nil_append, if_true, if_false, reduceIte, sk50, wI_get, upd_get, Nat.reduceEqDiff, reduceIte, if_true, if_false, a5, show nI 0 = (0 : Int32) from rfl]
    exact s0
  | succ k =>
    obtain ⟨b1, b2, ⟨b3, b4, b5, b6, b7⟩, b8, b9, b10, b11⟩ := a6 k (by omega)
    refine op2_v (.int (nI k)) ?_
    obtain ⟨pl, hpl⟩ : ∃ pl, (fi + k) % 12 = pl := ⟨_, rfl⟩
    have hne : (nI (k + 1) = 0) = False := eq_false (nI_ne0 (by omega) (by omega))
    rw [hpl] at b3 b4 b5 b6 b7
    simp only [e58_0, e58_1, e58_4, e58_7, e58_10, e58_12, e58_13, e58_14, e58_17, e58_18, e58_21, e58_24, e58_25, e58_28, e58_31, true_or, or_true, true_and, and_true, Option.toList, List.cons_append, List.nil_append, if_true, if_false, reduceIte, sk0, sr0_5, sr0_3, sk20, a4, hne, c59 (d := 7) a3 a4 a2 (by omega) hpl b3 (by omega)]
    have q20 : (tkb σ pl (hw k) k).1 20 6 = nI k := by unfold tkb; simp only [wI_get, upd_get, Nat.reduceEqDiff, reduceIte, if_true, if_false]
    have q50 : (tkb σ pl (hw k) k).1 50 = σ.1 50 := by unfold tkb; simp only [wI_get, upd_get, Nat.reduceEqDiff, reduceIte, if_true, if_false]
    have q62 : (tkb σ pl (hw k) k).1 62 = σ.1 62 := by unfold tkb; simp only [wI_get, upd_get, Nat.reduceEqDiff, reduceIte, if_true, if_false]
    simp only [q20, true_or, or_true, true_and, and_true, Option.toList, List.cons_append, List.nil_append, if_true, if_false, reduceIte]
    generalize hς : tkb σ pl (hw k) k = ς at q50 q62
    have e1 : nI (k + 1) - 1 = nI k := nI_pred k
    have e16 : (16 : Int32) * nI k = nI (16 * k) := pk_mul 16 k
    simp only [e130_0, e130_1, e130_2, e130_5, e130_6, e130_9, e130_15, e130_16, e130_17, e130_20, e130_21, e130_22, e130_25, e130_26, e130_27, e130_30, e130_32, e130_33, e130_36, e130_37, true_or, or_true, true_and, and_true, Option.toList, List.cons_append, List.nil_append, if_true, if_false, reduceIte, sk50, sr50_24, sk62, wI_get, upd_get, Nat.reduceEqDiff, reduceIte, if_true, if_false, q50, a5, hne, e1, e16]
    rw [c131 (c := 62) (a := 16 * k) (n := 192) sk62 sn62 (by omega) (by decide) (by decide) (by decide)]
    simp only [e130_0, e130_1, e130_2, e130_5, e130_6, e130_9, e130_12, e130_14, e130_15, e130_16, e130_17, e130_20, e130_21, e130_22, e130_25, e130_26, e130_27, e130_30, e130_32, e130_33, e130_36, e130_37, e130_40, e130_41, e130_44, true_or, or_true, true_and, and_true, Option.toList, List.cons_append, List.nil_append, if_true, if_false, reduceIte, sk50, wI_get, upd_get, Nat.reduceEqDiff, reduceIte, if_true, if_false, q50, q62, wI_wI]
    have hw6 : ∀ j, j < 9 → σ.1 62 (16 * k + j) = σ.1 62 (16 * k + j) := fun _ _ => rfl
    have hag : ag [0, 1, 2, 9, 11, 12, 13, 14, 15, 21, 22, 23, 24, 25, 27, 28, 29, 30, 51, 53, 54, 55, 56, 62, 63, 64] σ ς := by
      rw [← hς]
      unfold tkb
      exact ag_w (ag_w (ag_w (ag_rf _ _) (by decide)) (by decide)) (by decide)
    refine ⟨tn, tx, t, hf k, hth k, hsd k, hla k, lw, ⟨h1, iTx_ag h2 ?_ ?_, tdV_ag h3 ?_, mdV_ag h4 ?_ ?_, ⟨b2.1, b2.2.1, b2.2.2.1, h5.2.2.2.1, fun q hq => by have := b2.2.2.2.2 q hq; omega⟩, ?_, ?_⟩, ⟨k, fi, hw, hf, hth, hsd, hla, by omega, a2, ?_, ?_, ?_, fun i hi => ?_, fun q hq => rfl, fun i hi => a8 i (by omega)⟩, ks, iKp_ag (by omega) hk ?_⟩
    · repeat (first | exact ag_sub hag (by decide) | refine ag_w ?_ (by decide))
    · intro j hj
      simp only [List.mem_cons, List.not_mem_nil, or_false] at hj
      subst hj
      simp only [wI_get, upd_get, Nat.reduceEqDiff, reduceIte, if_true, if_false]
    · repeat (first | exact ag_sub hag (by decide) | refine ag_w ?_ (by decide))
    · repeat (first | exact ag_sub hag (by decide) | refine ag_w ?_ (by decide))
    · intro j hj
      simp only [List.mem_cons, List.not_mem_nil, or_false] at hj
      rcases hj with rfl | rfl <;> simp only [wI_get, upd_get, Nat.reduceEqDiff, reduceIte, if_true, if_false]
    · have e16c : ς.1 16 = upd (upd (upd (σ.1 16) 1 (σ.1 23 pl)) 2 (σ.1 24 pl)) 3 (σ.1 25 pl) := by rw [← hς]; unfold tkb; simp only [wI_get, upd_get, Nat.reduceEqDiff, reduceIte, if_true, if_false]
      have e17c : ς.1 17 = upd (σ.1 17) (hw k) (σ.1 22 pl) := by rw [← hς]; unfold tkb; simp only [wI_get, upd_get, Nat.reduceEqDiff, reduceIte, if_true, if_false]
      refine ⟨fun q hq => ⟨?_, ?_⟩, ?_, ?_, ?_, ?_, ?_, ?_, ?_, ?_⟩
      · simp only [wI_get, upd_get, Nat.reduceEqDiff, reduceIte, if_true, if_false, e17c]
        by_cases hqw : q = hw k
        · rw [if_pos hqw, hqw]; exact b4
        · rw [if_neg hqw, (h6.1 q hq).1, a8 k (by omega) q hq hqw, a7 q hq]
      · simp only [wI_get, upd_get, Nat.reduceEqDiff, reduceIte, if_true, if_false]
        unfold cpN
        rw [if_pos (by omega)]
        exact b8 q hq
      · simp only [wI_get, upd_get, Nat.reduceEqDiff, reduceIte, if_true, if_false, e16c]; exact b5
      · simp only [wI_get, upd_get, Nat.reduceEqDiff, reduceIte, if_true, if_false]; exact b9
      · simp only [wI_get, upd_get, Nat.reduceEqDiff, reduceIte, if_true, if_false, e16c]; exact b6
      · simp only [wI_get, upd_get, Nat.reduceEqDiff, reduceIte, if_true, if_false]; exact b10
      · simp only [wI_get, upd_get, Nat.reduceEqDiff, reduceIte, if_true, if_false, e16c]; exact b7
      · simp only [wI_get, upd_get, Nat.reduceEqDiff, reduceIte, if_true, if_false]; exact b11
      · simp only [wI_get, upd_get, Nat.reduceEqDiff, reduceIte, if_true, if_false, e16c]; exact h6.2.2.2.2.2.2.2.1
      · simp only [wI_get, upd_get, Nat.reduceEqDiff, reduceIte, if_true, if_false]; exact h6.2.2.2.2.2.2.2.2
    · simp only [wI_get, upd_get, Nat.reduceEqDiff, reduceIte, if_true, if_false, hag 9 (by decide)]; exact h7
    · have e20c : ς.1 20 = upd (σ.1 20) 6 (nI k) := by rw [← hς]; unfold tkb; simp only [wI_get, upd_get, Nat.reduceEqDiff, reduceIte, if_true, if_false]
      simp only [wI_get, upd_get, Nat.reduceEqDiff, reduceIte, if_true, if_false, e20c]; exact a3
    · have e20c : ς.1 20 = upd (σ.1 20) 6 (nI k) := by rw [← hς]; unfold tkb; simp only [wI_get, upd_get, Nat.reduceEqDiff, reduceIte, if_true, if_false]
      simp only [wI_get, upd_get, Nat.reduceEqDiff, reduceIte, if_true, if_false, e20c]
    · simp only [wI_get, upd_get, Nat.reduceEqDiff, reduceIte, if_true, if_false]
    · obtain ⟨d1, d2, d3, d4⟩ := a6 i (by omega)
      refine ⟨d1, nok_up (by omega) d2, ?_, ?_⟩
      · simp only [wI_get, upd_get, Nat.reduceEqDiff, reduceIte, if_true, if_false, hag 21 (by decide), hag 22 (by decide), hag 23 (by decide), hag 24 (by decide), hag 25 (by decide)]; exact d3
      · simp only [wI_get, upd_get, Nat.reduceEqDiff, reduceIte, if_true, if_false, q62]; exact d4
    · repeat (first | exact ag_sub hag (by decide) | refine ag_w ?_ (by decide))
