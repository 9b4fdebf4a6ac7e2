/-! PARTS THAT STAY -/
def ag (L : List Nat) (σ τ : ab_St) : Prop := ∀ c, c ∈ L → τ.1 c = σ.1 c
def ag5 (K : List Nat) (σ τ : ab_St) : Prop := ∀ k, k ∈ K → τ.1 50 k = σ.1 50 k
theorem ag_rf (L : List Nat) (σ : ab_St) : ag L σ σ := fun _ _ => rfl
theorem ag5_rf (K : List Nat) (σ : ab_St) : ag5 K σ σ := fun _ _ => rfl
theorem ag_w {L : List Nat} {σ τ : ab_St} {c : Nat} {g : Nat → Int32} (h : ag L σ τ) (hc : c ∉ L) : ag L σ (ab_wI τ c g) := fun k hk => by
  have hne : k ≠ c := fun e => hc (e ▸ hk)
  rw [wI_ne τ g hne]
  exact h k hk
theorem ag5_w {K : List Nat} {σ τ : ab_St} {c : Nat} {g : Nat → Int32} (h : ag5 K σ τ) (hc : 50 ≠ c) : ag5 K σ (ab_wI τ c g) := fun k hk => by
  rw [wI_ne τ g hc]
  exact h k hk
theorem ag5_u {K : List Nat} {σ τ : ab_St} {g : Nat → Int32} {j : Nat} {x : Int32} (h : ag5 K σ (ab_wI τ 50 g)) (hj : j ∉ K) : ag5 K σ (ab_wI τ 50 (upd g j x)) := fun k hk => by
  have h1 := h k hk
  rw [wI_eq] at h1 ⊢
  have hne : ¬ k = j := fun e => hj (e ▸ hk)
  unfold upd
  rw [if_neg hne]
  exact h1
theorem ag5_s {K : List Nat} {σ τ : ab_St} (h : ag5 K σ τ) : ag5 K σ (ab_wI τ 50 (τ.1 50)) := by rw [wI_self]; exact h
theorem ag_tr {L : List Nat} {σ τ υ : ab_St} (h : ag L σ τ) (h2 : ag L τ υ) : ag L σ υ := fun c hc => (h2 c hc).trans (h c hc)
theorem ag5_tr {L : List Nat} {σ τ υ : ab_St} (h : ag5 L σ τ) (h2 : ag5 L τ υ) : ag5 L σ υ := fun c hc => (h2 c hc).trans (h c hc)
theorem ag_sub {L L' : List Nat} {σ τ : ab_St} (h : ag L σ τ) (hs : ∀ c ∈ L', c ∈ L) : ag L' σ τ := fun c hc => h c (hs c hc)
theorem ag5_sub {L L' : List Nat} {σ τ : ab_St} (h : ag5 L σ τ) (hs : ∀ c ∈ L', c ∈ L) : ag5 L' σ τ := fun c hc => h c (hs c hc)
section Parts
variable {σ τ : ab_St} {B C tn : Nat} {tx : Nat → Nat} {t : gT} {f : Nat → Nat} {th sd : Nat} {la : Int32} {lw : Nat}
theorem tdV_ag (h : tdV σ 11 t) (a : ag [11, 12, 13, 14, 15] σ τ) : tdV τ 11 t := by
  obtain ⟨b1, b2, b3⟩ := h
  have r0 : ab_r 11 0 = 12 := rfl
  have r1 : ab_r 11 1 = 13 := rfl
  have r2 : ab_r 11 2 = 14 := rfl
  have r3 : ab_r 11 3 = 15 := rfl
  refine ⟨by rw [a 11 (by decide)]; exact b1, by rw [a 11 (by decide)]; exact b2, ?_⟩
  rw [r0, r1, r2, r3] at b3 ⊢
  rw [a 12 (by decide), a 13 (by decide), a 14 (by decide), a 15 (by decide)]
  exact b3
theorem mdV_ag (h : mdV σ t) (a : ag [53, 54, 55, 56] σ τ) (b : ag5 [5, 8] σ τ) : mdV τ t := by
  obtain ⟨d1, d2, d3⟩ := h
  refine ⟨by rw [b 5 (by decide)]; exact d1, by rw [b 8 (by decide)]; exact d2, ?_⟩
  rw [a 53 (by decide), a 54 (by decide), a 55 (by decide), a 56 (by decide)]
  exact d3
theorem iTx_ag (h : iTx σ tn tx) (a : ag [1, 2, 51] σ τ) (b : ag5 [2] σ τ) : iTx τ tn tx := by
  obtain ⟨a1, a2, a3, a4⟩ := h
  refine ⟨a1, by rw [a 1 (by decide)]; exact a2, by rw [b 2 (by decide)]; exact a3, ?_⟩
  rw [a 2 (by decide), a 51 (by decide)]
  exact a4
theorem iNow_ag (h : iNow σ t f th sd la lw) (a : ag [16, 17, 52] σ τ) (b : ag5 [4, 7, 13, 14] σ τ) : iNow τ t f th sd la lw := by
  obtain ⟨e0, e1, e2, e3, e4, e5, e6, e7, e8⟩ := h
  have k16 := a 16 (by decide)
  refine ⟨by rw [a 17 (by decide), a 52 (by decide)]; exact e0, by rw [k16]; exact e1, by rw [b 7 (by decide)]; exact e2, by rw [k16]; exact e3, by rw [b 13 (by decide)]; exact e4, by rw [k16]; exact e5, by rw [b 14 (by decide)]; exact e6, by rw [k16]; exact e7, by rw [b 4 (by decide)]; exact e8⟩
theorem iAc_ag {ac fi : Nat} {hw : Nat → Nat} {hf : Nat → Nat → Nat} {hth hsd : Nat → Nat} {hla : Nat → Int32} (hB : B ≤ C) (h : iAc σ t B f ac fi hw hf hth hsd hla) (s1 : ag [20, 21, 22, 23, 24, 25, 62] σ τ) (s2 : ag5 [25] σ τ) : iAc τ t C f ac fi hw hf hth hsd hla := by
  obtain ⟨h1, h2, h3, h4, h5, h6, h7⟩ := h
  have k20 := s1 20 (by decide)
  have k21 := s1 21 (by decide)
  have k22 := s1 22 (by decide)
  have k23 := s1 23 (by decide)
  have k24 := s1 24 (by decide)
  have k25 := s1 25 (by decide)
  have k62 := s1 62 (by decide)
  have f25 := s2 25 (by decide)
  refine ⟨h1, h2, by rw [k20]; exact h3, by rw [k20]; exact h4, by rw [f25]; exact h5, fun i hi => ?_, h7⟩
  obtain ⟨a1, a2, a3, a4⟩ := h6 i hi
  refine ⟨a1, nok_up hB a2, ?_, ?_⟩
  · rw [k21, k22, k23, k24, k25]; exact a3
  · rw [k62]; exact a4
theorem iKp_ag {ks : Nat} (hB : B ≤ C) (h : iKp σ t B ks) (s1 : ag [0, 27, 28, 29, 30, 63, 64] σ τ) : iKp τ t C ks := by
  obtain ⟨h1, h2, h3, h4, h5⟩ := h
  have k0 := s1 0 (by decide)
  have k27 := s1 27 (by decide)
  have k28 := s1 28 (by decide)
  have k29 := s1 29 (by decide)
  have k30 := s1 30 (by decide)
  have k63 := s1 63 (by decide)
  have k64 := s1 64 (by decide)
  refine ⟨h1, by rw [k0]; exact h2, by rw [k64]; exact h3, fun hb => ?_, fun hb => ?_⟩
  · obtain ⟨kf, kth, ksd, kla, klw, a1, a2⟩ := h4 hb
    refine ⟨kf, kth, ksd, kla, klw, nok_up hB a1, ?_⟩
    rw [k27, k28, k63]
    exact a2
  · obtain ⟨kf, kth, ksd, kla, klw, a1, a2⟩ := h5 hb
    refine ⟨kf, kth, ksd, kla, klw, nok_up hB a1, ?_⟩
    rw [k29, k30, k63]
    exact a2
end Parts
theorem upd_eq (g : Nat → Int32) (k : Nat) (x : Int32) : upd g k x k = x := if_pos rfl
theorem upd_ne (g : Nat → Int32) {k j : Nat} (x : Int32) (h : j ≠ k) : upd g k x j = g j := if_neg h
theorem op2_v {B : Nat} {σ : ab_St} {Mx Mm : Nat} {ex em : ab_Lo} (v : Value) (hx : Ev 8 Mx 0 ex [] σ (fun r σ1 => r = some v ∧ Ev 8 Mm 0 em [] σ1 (fun r' σ2 => r' = some v ∧ Inv (B + 9) σ2))) : op2 B σ Mx ex Mm em :=
  hx.mono (fun r σ1 h => h.2.mono (fun r' σ2 h2 => ⟨⟨v, h.1, h2.1⟩, h2.2⟩))
set_option maxHeartbeats 2000000 in
theorem op_wipe {B : Nat} {σ : ab_St} (hI : Inv B σ) : op2 B σ 13 [some (.ref 0), none] 102 [some (.ref 50), none] := by
  obtain ⟨tn, tx, t, f, th, sd, la, lw, ⟨h1, h2, h3, h4, h5, h6, h7⟩, ⟨ac, fi, hw, hf, hth, hsd, hla, ha⟩, ks, hk⟩ := hI
  refine op2_v (.int (nI tn)) ?_
  simp only [e13_0, e13_1, e13_4, e13_7, e13_8, e13_9, e13_12, e13_13, e13_16, e13_17, true_or, or_true, true_and, and_true, Option.toList, List.cons_append, List.nil_append, if_true, if_false, reduceIte, sk0, sr0_0, sk1, h2.2.1]
  have e5 : (ab_wI σ 1 (upd (σ.1 1) 1 0)).1 50 = σ.1 50 := wI_ne σ _ (by decide)
  simp only [e102_0, e102_1, e102_2, e102_5, e102_6, e102_9, e102_10, e102_11, e102_12, e102_15, e102_16, true_or, or_true, true_and, and_true, Option.toList, List.cons_append, List.nil_append, if_true, if_false, reduceIte, sk50, e5, wI_eq, wI_wI, upd_ne (σ.1 50) (k := 0) (j := 2) 0 (by decide), h2.2.2.1]
  have a1 : ∀ L, 1 ∉ L → 50 ∉ L → ag L σ (ab_wI (ab_wI σ 1 (upd (σ.1 1) 1 0)) 50 (upd (upd (σ.1 50) 0 0) 2 0)) := fun L z1 z2 => ag_w (ag_w (ag_rf L σ) z1) z2
  have a5 : ∀ K, 0 ∉ K → 2 ∉ K → ag5 K σ (ab_wI (ab_wI σ 1 (upd (σ.1 1) 1 0)) 50 (upd (upd (σ.1 50) 0 0) 2 0)) := fun K z1 z2 => by
    have b := ag5_s (ag5_w (g := upd (σ.1 1) 1 0) (c := 1) (ag5_rf K σ) (by decide))
    rw [e5] at b
    exact ag5_u (ag5_u b z1) z2
  refine ⟨0, tx, t, f, th, sd, la, lw, ⟨h1, ⟨Nat.zero_le _, ?_, ?_, fun j hj => by omega⟩, tdV_ag h3 (a1 _ (by decide) (by decide)), mdV_ag h4 (a1 _ (by decide) (by decide)) (a5 _ (by decide) (by decide)), nok_up (by omega) h5, iNow_ag h6 (a1 _ (by decide) (by decide)) (a5 _ (by decide) (by decide)), ?_⟩, ⟨ac, fi, hw, hf, hth, hsd, hla, iAc_ag (by omega) ha (a1 _ (by decide) (by decide)) (a5 _ (by decide) (by decide))⟩, ks, iKp_ag (by omega) hk (a1 _ (by decide) (by decide))⟩
  · rw [wI_ne _ _ (by decide), wI_eq, upd_eq]; rfl
  · rw [wI_eq, upd_eq]; rfl
  · rw [wI_ne _ _ (by decide), wI_ne _ _ (by decide)]; exact h7
theorem law_in (x : Int32) : decide ((0 : Int64) ≤ x.toInt64 ∧ x.toInt64 ≤ 2) = inR x 3 := inL (x := x) (n := 3) (by decide)
set_option maxHeartbeats 2000000 in
theorem op_law {B : Nat} {σ : ab_St} {x : Int32} (hI : Inv B σ) : op2 B σ 44 [some (.ref 0), some (.int x), none] 120 [some (.ref 50), some (.int x), none] := by
  obtain ⟨tn, tx, t, f, th, sd, la, lw, ⟨h1, h2, h3, h4, h5, h6, h7⟩, ⟨ac, fi, hw, hf, hth, hsd, hla, ha⟩, ks, hk⟩ := id hI
  have s0 : sam σ (ab_wI σ 50 (upd (σ.1 50) 0 0)) := sam_50 (by decide)
  by_cases hx : inR x 3 = true
  · obtain ⟨k, hk3, rfl⟩ := inR_of hx (by decide)
    have e1 : (nI k < 0) = False := eq_false (nI_pos (by omega))
    have e2 : (nI k < (3 : Int32)) = True := eq_true (nI_lt (a := k) (b := 3) hk3 (by decide))
    refine op2_v (.int (nI lw)) ?_
    simp only [e44_0, e44_1, e44_4, e44_5, e44_6, e44_9, e44_11, e44_12, e44_13, e44_16, e44_19, e44_20, e44_21, e44_24, e44_25, e44_28, e44_29, true_or, or_true, true_and, and_true, Option.toList, List.cons_append, List.nil_append, if_true, if_false, reduceIte, sk0, sr0_3, sk16, e1, e2, h6.2.2.2.2.2.2.2.1]
    have e5 : ∀ g, (ab_wI σ 16 g).1 50 = σ.1 50 := fun g => wI_ne σ g (by decide)
    simp only [e120_0, e120_1, e120_2, e120_5, e120_6, e120_7, e120_8, e120_11, e120_14, e120_17, e120_19, e120_20, e120_21, e120_24, e120_25, e120_26, e120_27, e120_30, e120_31, true_or, or_true, true_and, and_true, Option.toList, List.cons_append, List.nil_append, if_true, if_false, reduceIte, sk50, e5, wI_eq, wI_wI, c101, law_in, hx, bI_0, Bool.true_eq_false, upd_ne (σ.1 50) (k := 0) (j := 4) 0 (by decide), h6.2.2.2.2.2.2.2.2]
    have a1 : ∀ L, 16 ∉ L → 50 ∉ L → ag L σ (ab_wI (ab_wI σ 16 (upd (σ.1 16) 4 (nI k))) 50 (upd (upd (σ.1 50) 0 0) 4 (nI k))) := fun L z1 z2 => ag_w (ag_w (ag_rf L σ) z1) z2
    have a5 : ∀ K, 0 ∉ K → 4 ∉ K → ag5 K σ (ab_wI (ab_wI σ 16 (upd (σ.1 16) 4 (nI k))) 50 (upd (upd (σ.1 50) 0 0) 4 (nI k))) := fun K z1 z2 => by
      have b := ag5_s (ag5_w (g := upd (σ.1 16) 4 (nI k)) (c := 16) (ag5_rf K σ) (by decide))
      rw [e5] at b
      exact ag5_u (ag5_u b z1) z2
    obtain ⟨n0, n1, n2, n3, n4, n5, n6, n7, n8⟩ := h6
    refine ⟨tn, tx, t, f, th, sd, la, k, ⟨h1, iTx_ag h2 (a1 _ (by decide) (by decide)) (a5 _ (by decide) (by decide)), tdV_ag h3 (a1 _ (by decide) (by decide)), mdV_ag h4 (a1 _ (by decide) (by decide)) (a5 _ (by decide) (by decide)), ⟨h5.1, h5.2.1, h5.2.2.1, hk3, fun p hp => by have := h5.2.2.2.2 p hp; omega⟩, ?_, ?_⟩, ⟨ac, fi, hw, hf, hth, hsd, hla, iAc_ag (by omega) ha (a1 _ (by decide) (by decide)) (a5 _ (by decide) (by decide))⟩, ks, iKp_ag (by omega) hk (a1 _ (by decide) (by decide))⟩
    · have z50 := a5 [7, 13, 14] (by decide) (by decide)
      have z17 := a1 [17, 52] (by decide) (by decide)
      have z16 : (ab_wI (ab_wI σ 16 (upd (σ.1 16) 4 (nI k))) 50 (upd (upd (σ.1 50) 0 0) 4 (nI k))).1 16 = upd (σ.1 16) 4 (nI k) := by rw [wI_ne _ _ (by decide), wI_eq]
      refine ⟨by rw [z17 17 (by decide), z17 52 (by decide)]; exact n0, by rw [z16]; exact n1, by rw [z50 7 (by decide)]; exact n2, by rw [z16]; exact n3, by rw [z50 13 (by decide)]; exact n4, by rw [z16]; exact n5, by rw [z50 14 (by decide)]; exact n6, by rw [z16]; rfl, by rw [wI_eq]; rfl⟩
    · rw [wI_ne _ _ (by decide), wI_ne _ _ (by decide)]; exact h7
  · have hx : inR x 3 = false := by simpa using hx
    refine op2_q (.int (-2)) hI ?_
    have hx2 : x.toInt < 0 ∨ 3 ≤ x.toInt := by
      unfold inR at hx
      have := of_decide_eq_false hx
      omega
    have key : Ev 8 120 0 [some (.ref 50), some (.int x), none] [] σ (fun r σ2 => r = some (.int (-2)) ∧ sam σ σ2) := by
      simp only [e120_0, e120_1, e120_2, e120_5, e120_6, e120_7, e120_8, e120_11, e120_14, e120_17, e120_19, e120_20, e120_21, e120_24, e120_25, e120_26, e120_27, e120_30, e120_31, true_or, or_true, true_and, and_true, Option.toList, List.cons_append, List.nil_append, if_true, if_false, reduceIte, sk50, c101, law_in, hx, bI_0]
      exact s0
    have e1 : (x < 0) = (x.toInt < 0) := lt0_iff x
    have e2 : (x < (3 : Int32)) = (x.toInt < 3) := propext Int32.lt_iff_toInt_lt
    simp only [e44_0, e44_1, e44_4, e44_5, e44_6, e44_9, e44_11, e44_12, e44_13, e44_16, e44_19, e44_20, e44_21, e44_24, e44_25, e44_28, e44_29, true_or, or_true, true_and, and_true, Option.toList, List.cons_append, List.nil_append, if_true, if_false, reduceIte, e1, e2]
    by_cases z : x.toInt < 0
    · rw [if_pos z]; exact ⟨sam_rf σ, key⟩
    · rw [if_neg z, if_neg (by omega)]; exact ⟨sam_rf σ, key⟩
