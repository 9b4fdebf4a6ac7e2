/-! WHAT CLASS AND MODEL HOLD IN COMMON -/
def iTx (σ : ab_St) (tn : Nat) (tx : Nat → Nat) : Prop := tn ≤ 64 ∧ σ.1 1 1 = nI tn ∧ σ.1 50 2 = nI tn ∧ ∀ j, j < tn → tx j < 256 ∧ σ.1 2 j = (nI (tx j)).toInt8.toInt32 ∧ σ.1 51 j = nI (tx j)
def laok (t : gT) (la : Int32) : Prop := la = -9 ∨ ∃ k, k < tS t ∧ la = nI k
def nok (t : gT) (B : Nat) (f : Nat → Nat) (th sd : Nat) (la : Int32) (lw : Nat) : Prop := th < 2 ^ tP t ∧ sd < 2 ^ tS t ∧ laok t la ∧ lw < 3 ∧ ∀ p, p < tP t → f p ≤ B
def iNow (σ : ab_St) (t : gT) (f : Nat → Nat) (th sd : Nat) (la : Int32) (lw : Nat) : Prop := (∀ p, p < tP t → σ.1 17 p = nI (f p) ∧ σ.1 52 p = nI (f p)) ∧ σ.1 16 1 = nI th ∧ σ.1 50 7 = nI th ∧ σ.1 16 2 = nI sd ∧ σ.1 50 13 = nI sd ∧ σ.1 16 3 = la ∧ σ.1 50 14 = la ∧ σ.1 16 4 = nI lw ∧ σ.1 50 4 = nI lw
/-- one act: who, and all as it was before -/
def iA1 (σ : ab_St) (t : gT) (B fi i : Nat) (hw : Nat) (hf : Nat → Nat) (hth hsd : Nat) (hla : Int32) : Prop := hw < tP t ∧ nok t B hf hth hsd hla 0 ∧
  (σ.1 21 ((fi + i) % 12) = nI hw ∧ σ.1 22 ((fi + i) % 12) = nI (hf hw) ∧ σ.1 23 ((fi + i) % 12) = nI hth ∧ σ.1 24 ((fi + i) % 12) = nI hsd ∧ σ.1 25 ((fi + i) % 12) = hla) ∧
  (∀ p, p < tP t → σ.1 62 (16 * i + p) = nI (hf p)) ∧ σ.1 62 (16 * i + 6) = nI hth ∧ σ.1 62 (16 * i + 7) = nI hsd ∧ σ.1 62 (16 * i + 8) = hla
def iAc (σ : ab_St) (t : gT) (B : Nat) (f : Nat → Nat) (ac fi : Nat) (hw : Nat → Nat) (hf : Nat → Nat → Nat) (hth hsd : Nat → Nat) (hla : Nat → Int32) : Prop := ac ≤ 12 ∧ fi < 12 ∧ σ.1 20 5 = nI fi ∧ σ.1 20 6 = nI ac ∧ σ.1 50 25 = nI ac ∧
  (∀ i, i < ac → iA1 σ t B fi i (hw i) (hf i) (hth i) (hsd i) (hla i)) ∧ (∀ p, p < tP t → hf ac p = f p) ∧ ∀ i, i < ac → ∀ p, p < tP t → p ≠ hw i → hf i p = hf (i + 1) p
def iK1 (σ : ab_St) (t : gT) (B s c w : Nat) (kf : Nat → Nat) (kth ksd : Nat) (kla : Int32) (klw : Nat) : Prop := nok t B kf kth ksd kla klw ∧
  (∀ p, p < tP t → σ.1 w p = nI (kf p) ∧ σ.1 63 (16 * s + p) = nI (kf p)) ∧ (σ.1 c 1 = nI kth ∧ σ.1 c 2 = nI ksd ∧ σ.1 c 3 = kla ∧ σ.1 c 4 = nI klw) ∧ σ.1 63 (16 * s + 6) = nI kth ∧ σ.1 63 (16 * s + 7) = nI ksd ∧ σ.1 63 (16 * s + 8) = kla ∧ σ.1 63 (16 * s + 9) = nI klw
def iKp (σ : ab_St) (t : gT) (B ks : Nat) : Prop := ks < 4 ∧ σ.1 0 10 = nI ks ∧ (σ.1 64 0 = bI (ks.testBit 0) ∧ σ.1 64 1 = bI (ks.testBit 1)) ∧
  (ks.testBit 0 = true → ∃ kf kth ksd kla klw, iK1 σ t B 0 27 28 kf kth ksd kla klw) ∧ (ks.testBit 1 = true → ∃ kf kth ksd kla klw, iK1 σ t B 1 29 30 kf kth ksd kla klw)
/-- all but the acts and the kept -/
def iBas (σ : ab_St) (B tn : Nat) (tx : Nat → Nat) (t : gT) (f : Nat → Nat) (th sd : Nat) (la : Int32) (lw : Nat) : Prop := tok t ∧ iTx σ tn tx ∧ tdV σ 11 t ∧ mdV σ t ∧ nok t B f th sd la lw ∧ iNow σ t f th sd la lw ∧ (σ.1 9 2 = 0 ∧ σ.1 9 3 = -9)
def Inv (B : Nat) (σ : ab_St) : Prop := ∃ tn tx t f th sd la lw, iBas σ B tn tx t f th sd la lw ∧ (∃ ac fi hw hf hth hsd hla, iAc σ t B f ac fi hw hf hth hsd hla) ∧ ∃ ks, iKp σ t B ks
/-- what is kept through a question -/
def sam (σ τ : ab_St) : Prop := (∀ c, c ∈ [0, 1, 2, 11, 12, 13, 14, 15, 16, 17, 20, 21, 22, 23, 24, 25, 27, 28, 29, 30, 51, 52, 53, 54, 55, 56, 62, 63, 64] → τ.1 c = σ.1 c) ∧ (∀ k, k ∈ [2, 4, 5, 7, 8, 13, 14, 25] → τ.1 50 k = σ.1 50 k) ∧ τ.1 9 2 = σ.1 9 2 ∧ τ.1 9 3 = σ.1 9 3
theorem sam_rf (σ : ab_St) : sam σ σ := ⟨fun _ _ => rfl, fun _ _ => rfl, rfl, rfl⟩
theorem sam_tr {σ τ υ : ab_St} (h : sam σ τ) (h2 : sam τ υ) : sam σ υ := ⟨fun c hc => (h2.1 c hc).trans (h.1 c hc), fun k hk => (h2.2.1 k hk).trans (h.2.1 k hk), h2.2.2.1.trans h.2.2.1, h2.2.2.2.trans h.2.2.2⟩
theorem nok_up {t : gT} {B C : Nat} (hB : B ≤ C) {f : Nat → Nat} {th sd : Nat} {la : Int32} {lw : Nat} (h : nok t B f th sd la lw) : nok t C f th sd la lw := ⟨h.1, h.2.1, h.2.2.1, h.2.2.2.1, fun p hp => Nat.le_trans (h.2.2.2.2 p hp) hB⟩
theorem bas_sam {σ τ : ab_St} {B C tn : Nat} {tx : Nat → Nat} {t : gT} {f : Nat → Nat} {th sd : Nat} {la : Int32} {lw : Nat} (hB : B ≤ C) (hs : sam σ τ) (h : iBas σ B tn tx t f th sd la lw) : iBas τ C tn tx t f th sd la lw := by
  obtain ⟨s1, s2, s3, s4⟩ := hs
  obtain ⟨h1, ⟨a1, a2, a3, a4⟩, ⟨b1, b2, b3⟩, ⟨d1, d2, d3⟩, h5, ⟨e0, e1, e2, e3, e4, e5, e6, e7, e8⟩, h7, h8⟩ := h
  have r0 : ab_r 11 0 = 12 := rfl
  have r1 : ab_r 11 1 = 13 := rfl
  have r2 : ab_r 11 2 = 14 := rfl
  have r3 : ab_r 11 3 = 15 := rfl
  have k1 := s1 1 (by decide)
  have k2 := s1 2 (by decide)
  have k11 := s1 11 (by decide)
  have k12 := s1 12 (by decide)
  have k13 := s1 13 (by decide)
  have k14 := s1 14 (by decide)
  have k15 := s1 15 (by decide)
  have k16 := s1 16 (by decide)
  have k17 := s1 17 (by decide)
  have k51 := s1 51 (by decide)
  have k52 := s1 52 (by decide)
  have k53 := s1 53 (by decide)
  have k54 := s1 54 (by decide)
  have k55 := s1 55 (by decide)
  have k56 := s1 56 (by decide)
  have f2 := s2 2 (by decide)
  have f4 := s2 4 (by decide)
  have f5 := s2 5 (by decide)
  have f7 := s2 7 (by decide)
  have f8 := s2 8 (by decide)
  have f13 := s2 13 (by decide)
  have f14 := s2 14 (by decide)
  refine ⟨h1, ⟨a1, by rw [k1]; exact a2, by rw [f2]; exact a3, by rw [k2, k51]; exact a4⟩, ⟨by rw [k11]; exact b1, by rw [k11]; exact b2, ?_⟩, ⟨by rw [f5]; exact d1, by rw [f8]; exact d2, by rw [k53, k54, k55, k56]; exact d3⟩, nok_up hB h5, ⟨by rw [k17, k52]; exact e0, by rw [k16]; exact e1, by rw [f7]; exact e2, by rw [k16]; exact e3, by rw [f13]; exact e4, by rw [k16]; exact e5, by rw [f14]; exact e6, by rw [k16]; exact e7, by rw [f4]; exact e8⟩, by rw [s3]; exact h7, by rw [s4]; exact h8⟩
  rw [r0, r1, r2, r3] at b3 ⊢
  rw [k12, k13, k14, k15]
  exact b3
theorem ac_sam {σ τ : ab_St} {B C : Nat} {t : gT} {f : Nat → Nat} {ac fi : Nat} {hw : Nat → Nat} {hf : Nat → Nat → Nat} {hth hsd : Nat → Nat} {hla : Nat → Int32} (hB : B ≤ C) (hs : sam σ τ) (h : iAc σ t B f ac fi hw hf hth hsd hla) : iAc τ t C f ac fi hw hf hth hsd hla := by
  obtain ⟨s1, s2, -⟩ := hs
  obtain ⟨h1, h2, h3, h4, h5, h6, h7⟩ := h
  have k20 := s1 20 (by decide)
  have k21 := s1 21 (by decide)
  have k22 := s1 22 (by decide)
  have k23 := s1 23 (by decide)
  have k24 := s1 24 (by decide)
  have k25 := s1 25 (by decide)
  have k62 := s1 62 (by decide)
  have f25 := s2 25 (by decide)
  refine ⟨h1, h2, by rw [k20]; exact h3, by rw [k20]; exact h4, by rw [f25]; exact h5, fun i hi => ?_, h7⟩
  obtain ⟨a1, a2, a3, a4⟩ := h6 i hi
  refine ⟨a1, nok_up hB a2, ?_, ?_⟩
  · rw [k21, k22, k23, k24, k25]; exact a3
  · rw [k62]; exact a4
theorem kp_sam {σ τ : ab_St} {B C : Nat} {t : gT} {ks : Nat} (hB : B ≤ C) (hs : sam σ τ) (h : iKp σ t B ks) : iKp τ t C ks := by
  obtain ⟨s1, s2, -⟩ := hs
  obtain ⟨h1, h2, h3, h4, h5⟩ := h
  have k0 := s1 0 (by decide)
  have k27 := s1 27 (by decide)
  have k28 := s1 28 (by decide)
  have k29 := s1 29 (by decide)
  have k30 := s1 30 (by decide)
  have k63 := s1 63 (by decide)
  have k64 := s1 64 (by decide)
  refine ⟨h1, by rw [k0]; exact h2, by rw [k64]; exact h3, fun hb => ?_, fun hb => ?_⟩
  · obtain ⟨kf, kth, ksd, kla, klw, a1, a2⟩ := h4 hb
    refine ⟨kf, kth, ksd, kla, klw, nok_up hB a1, ?_⟩
    rw [k27, k28, k63]
    exact a2
  · obtain ⟨kf, kth, ksd, kla, klw, a1, a2⟩ := h5 hb
    refine ⟨kf, kth, ksd, kla, klw, nok_up hB a1, ?_⟩
    rw [k29, k30, k63]
    exact a2
theorem Inv.sam {σ τ : ab_St} {B C : Nat} (h : Inv B σ) (hB : B ≤ C) (hs : sam σ τ) : Inv C τ := by
  obtain ⟨tn, tx, t, f, th, sd, la, lw, h1, ⟨ac, fi, hw, hf, hth, hsd, hla, h2⟩, ks, h3⟩ := h
  exact ⟨tn, tx, t, f, th, sd, la, lw, bas_sam hB hs h1, ⟨ac, fi, hw, hf, hth, hsd, hla, ac_sam hB hs h2⟩, ks, kp_sam hB hs h3⟩
/-- class and model answer alike, and hold alike behind it -/
def op2 (B : Nat) (σ : ab_St) (Mx : Nat) (ex : ab_Lo) (Mm : Nat) (em : ab_Lo) : Prop := Ev 8 Mx 0 ex [] σ (fun r σ1 => Ev 8 Mm 0 em [] σ1 (fun r' σ2 => (∃ v : Value, r = some v ∧ r' = some v) ∧ Inv (B + 9) σ2))
/-- a question: the answers, and nothing that is kept is changed -/
theorem op2_q {B : Nat} {σ : ab_St} {Mx Mm : Nat} {ex em : ab_Lo} (v : Value) (hI : Inv B σ) (hx : Ev 8 Mx 0 ex [] σ (fun r σ1 => r = some v ∧ sam σ σ1 ∧ Ev 8 Mm 0 em [] σ1 (fun r' σ2 => r' = some v ∧ sam σ1 σ2))) : op2 B σ Mx ex Mm em :=
  hx.mono (fun r σ1 h => h.2.2.mono (fun r' σ2 h2 => ⟨⟨v, h.1, h2.1⟩, hI.sam (by omega) (sam_tr h.2.1 h2.2)⟩))
/-- a change of cells that nobody keeps -/
theorem sam_w {σ : ab_St} {c : Nat} {g : Nat → Int32} (hc : c ∉ [0, 1, 2, 9, 11, 12, 13, 14, 15, 16, 17, 20, 21, 22, 23, 24, 25, 27, 28, 29, 30, 50, 51, 52, 53, 54, 55, 56, 62, 63, 64]) : sam σ (ab_wI σ c g) := by
  simp only [List.mem_cons, List.not_mem_nil, or_false, not_or] at hc
  refine ⟨fun k hk => wI_ne σ g (fun e => ?_), fun k _ => ?_, ?_, ?_⟩
  · subst e
    simp only [List.mem_cons, List.not_mem_nil, or_false] at hk
    omega
  · rw [wI_ne σ g (show 50 ≠ c by omega)]
  · rw [wI_ne σ g (show 9 ≠ c by omega)]
  · rw [wI_ne σ g (show 9 ≠ c by omega)]
/-- of the model's own numbers, one that nobody keeps -/
theorem sam_50 {σ : ab_St} {k : Nat} {x : Int32} (hk : k ∉ [2, 4, 5, 7, 8, 13, 14, 25]) : sam σ (ab_wI σ 50 (upd (σ.1 50) k x)) := by
  refine ⟨fun c hc => wI_ne σ _ (fun e => ?_), fun j hj => ?_, congrFun (wI_ne (c := 50) (k := 9) σ _ (by decide)) 2, congrFun (wI_ne (c := 50) (k := 9) σ _ (by decide)) 3⟩
  · subst e
    revert hc
    decide
  · rw [wI_eq]
    have hne : ¬ j = k := fun e => hk (e ▸ hj)
    unfold upd
    rw [if_neg hne]
theorem sam_L {σ : ab_St} {c : Nat} {g : Nat → Int64} : sam σ (ab_wL σ c g) := ⟨fun _ _ => rfl, fun _ _ => rfl, rfl, rfl⟩
theorem sam_bgn (σ : ab_St) (P : Nat) : sam σ (bgn σ P) := by
  have h1 : sam σ (ab_wI σ 65 (cpN P (σ.1 52) (σ.1 65))) := sam_w (by decide)
  refine sam_tr h1 ?_
  unfold bgn
  generalize ab_wI σ 65 (cpN P (σ.1 52) (σ.1 65)) = τ at h1
  have e : ∀ k, k ∈ [2, 4, 5, 7, 8, 13, 14, 25] → upd (upd (σ.1 50) 29 (σ.1 50 13)) 30 (σ.1 50 14) k = τ.1 50 k := by
    intro k hk
    rw [h1.2.1 k hk]
    simp only [List.mem_cons, List.not_mem_nil, or_false] at hk
    unfold upd
    rw [if_neg (by omega), if_neg (by omega)]
  refine ⟨fun c hc => wI_ne τ _ (fun e => ?_), fun j hj => ?_, congrFun (wI_ne (c := 50) (k := 9) τ _ (by decide)) 2, congrFun (wI_ne (c := 50) (k := 9) τ _ (by decide)) 3⟩
  · subst e
    revert hc
    decide
  · rw [wI_eq]
    exact e j hj
/-- what is read behind begin -/
theorem bgn_w {σ : ab_St} {P p : Nat} (hp : p < P) : (bgn σ P).1 65 p = σ.1 52 p := by
  unfold bgn
  rw [wI_ne _ _ (by decide), wI_eq]
  unfold cpN
  rw [if_pos hp]
theorem bgn_29 (σ : ab_St) (P : Nat) : (bgn σ P).1 50 29 = σ.1 50 13 := by
  unfold bgn
  rw [wI_eq]
  rfl
theorem bgn_30 (σ : ab_St) (P : Nat) : (bgn σ P).1 50 30 = σ.1 50 14 := by
  unfold bgn
  rw [wI_eq]
  rfl
theorem two_le (P : Nat) (h : P ≤ 6) : 2 ^ P ≤ 64 := (Nat.pow_le_pow_right (by decide) h : 2 ^ P ≤ 2 ^ 6)
theorem two_le8 (P : Nat) (h : P ≤ 8) : 2 ^ P ≤ 256 := (Nat.pow_le_pow_right (by decide) h : 2 ^ P ≤ 2 ^ 8)
section Bas
variable {σ : ab_St} {B tn : Nat} {tx : Nat → Nat} {t : gT} {f : Nat → Nat} {th sd : Nat} {la : Int32} {lw : Nat}
/-- the class' state as the contracts want it -/
theorem bas_stV (hB : B < 90000) (h : iBas σ B tn tx t f th sd la lw) : stV σ 16 f th := by
  obtain ⟨h1, -, -, -, h5, h6, -⟩ := h
  have := two_le _ h1.1
  exact ⟨fun p hp => (h6.1 p (bit_lt h5.1 hp)).1, h6.2.1, by have := h5.1; omega, fun p hp => by have := h5.2.2.2.2 p (bit_lt h5.1 hp); omega⟩
theorem bas_mlV (hB : B < 90000) (h : iBas σ B tn tx t f th sd la lw) : mlV (bgn σ (tP t)) (tP t) f th := by
  have h2 := bas_sam (Nat.le_refl B) (sam_bgn σ (tP t)) h
  obtain ⟨h1, -, -, hm, h5, h6, -⟩ := h2
  exact ⟨hm.1, fun p hp => by rw [bgn_w (bit_lt h5.1 hp)]; exact (h.2.2.2.2.2.1.1 p (bit_lt h5.1 hp)).2, h6.2.2.1, h5.1, h1.1, fun p hp => by have := h5.2.2.2.2 p (bit_lt h5.1 hp); omega⟩
end Bas
