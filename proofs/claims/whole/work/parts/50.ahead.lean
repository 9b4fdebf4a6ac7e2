/-! LOOKING AHEAD -/
/-- words when n is said, sd being said now -/
def fwd (t : gT) (f : Nat → Nat) (sd n : Nat) : Nat → Nat := fun p => f p + sm (nd n sd) (fun s => if tw t s = p then tz t s else 0) (tS t)
def spt (t : gT) (sd n : Nat) : Nat := sm (nd n sd) (tz t) (tS t)
def gnd (t : gT) (sd n : Nat) : Nat := sm (nd n sd) (tv t) (tS t)
theorem sm_s (a : Nat) (g : Nat → Nat) (m : Nat) : sm a g (m + 1) = if a.testBit m = true then sm a g m + g m else sm a g m := rfl
theorem sm_add {a s : Nat} (g : Nat → Nat) (h : a.testBit s = false) (m : Nat) : sm (a ||| 2 ^ s) g m = sm a g m + (if s < m then g s else 0) := by
  induction m with
  | zero => rfl
  | succ m ih =>
    rw [sm_s, sm_s, ih, bit_set]
    by_cases e : s = m
    · subst e
      simp [h]
    · have : decide (s = m) = false := decide_eq_false e
      rw [this, Bool.or_false]
      have e2 : (s < m + 1) = (s < m) := propext (by omega)
      simp only [e2]
      split <;> omega
theorem nd_add {n sd s : Nat} (h : sd.testBit s = false) : nd (n ||| 2 ^ s) sd = nd n sd ||| 2 ^ s := by
  apply bits_ext
  intro i
  rw [nd_bit, bit_set, bit_set, nd_bit]
  by_cases e : s = i
  · subst e; simp [h]
  · simp [e]
theorem nd_self (sd : Nat) : nd sd sd = 0 := by
  apply bits_ext
  intro i
  rw [nd_bit]
  simp
theorem sm_z (g : Nat → Nat) (m : Nat) : sm 0 g m = 0 := by
  induction m with
  | zero => rfl
  | succ m ih => rw [sm_s, ih]; simp
theorem fwd_self (t : gT) (f : Nat → Nat) (sd : Nat) : fwd t f sd sd = f := by
  funext p
  unfold fwd
  rw [nd_self, sm_z]
  rfl
theorem fwd_add {t : gT} {f : Nat → Nat} {sd n s : Nat} (h1 : n.testBit s = false) (h2 : sd.testBit s = false) (hs : s < tS t) : fwd t f sd (n ||| 2 ^ s) = utw t (fwd t f sd n) s := by
  funext p
  unfold fwd utw
  rw [nd_add h2, sm_add _ (by rw [nd_bit, h1]; rfl), if_pos hs]
  by_cases e : p = tw t s
  · subst e; simp only [if_pos]; omega
  · rw [if_neg e, if_neg (fun z => e z.symm)]
    rfl
theorem spt_add {t : gT} {sd n s : Nat} (h1 : n.testBit s = false) (h2 : sd.testBit s = false) (hs : s < tS t) : spt t sd (n ||| 2 ^ s) = spt t sd n + tz t s := by
  unfold spt
  rw [nd_add h2, sm_add _ (by rw [nd_bit, h1]; rfl), if_pos hs]
theorem gnd_add {t : gT} {sd n s : Nat} (h1 : n.testBit s = false) (h2 : sd.testBit s = false) (hs : s < tS t) : gnd t sd (n ||| 2 ^ s) = gnd t sd n + tv t s := by
  unfold gnd
  rw [nd_add h2, sm_add _ (by rw [nd_bit, h1]; rfl), if_pos hs]
theorem spt_self (t : gT) (sd : Nat) : spt t sd sd = 0 := by unfold spt; rw [nd_self, sm_z]
theorem gnd_self (t : gT) (sd : Nat) : gnd t sd sd = 0 := by unfold gnd; rw [nd_self, sm_z]
theorem spt_le {t : gT} (ht : tok t) (sd n : Nat) : spt t sd n ≤ 72 := by
  have h := sm_le (nd n sd) (tz t) 9 (tS t) (fun p hp _ => (ht.2.2 p hp).2.2.1)
  have := ht.2.1
  unfold spt
  omega
theorem gnd_le {t : gT} (ht : tok t) (sd n : Nat) : gnd t sd n ≤ 72 := by
  have h := sm_le (nd n sd) (tv t) 9 (tS t) (fun p hp _ => (ht.2.2 p hp).2.2.2.1)
  have := ht.2.1
  unfold gnd
  omega
theorem fws_le {t : gT} (ht : tok t) (sd n p m : Nat) (hm : m ≤ tS t) : sm (nd n sd) (fun s => if tw t s = p then tz t s else 0) m ≤ 72 := by
  have h := sm_le (nd n sd) (fun s => if tw t s = p then tz t s else 0) 9 m (fun q hq _ => by
    have := (ht.2.2 q (by omega)).2.2.1
    split <;> omega)
  have := ht.2.1
  omega
theorem fwd_le {t : gT} (ht : tok t) (f : Nat → Nat) (sd n p : Nat) : fwd t f sd n p ≤ f p + 72 := by
  have := fws_le ht sd n p (tS t) (Nat.le_refl _)
  unfold fwd
  omega
set_option maxHeartbeats 8000000 in
/-- Ahead.leastAt -/
theorem c66 {d ah c w n : Nat} {t : gT} {f : Nat → Nat} {th sd : Nat} {σ : ab_St} {Q : Option Value → ab_St → Prop} (ka : ab_k ah = 7) (ra : ab_r ah 0 = c) (kc : ab_k c = 4) (rc : ab_r c 0 = w) (kw : ab_k w = 100) (nw : ab_n w = 6) (hc : c ∉ [11, 12, 13, 14, 15, 16, 17]) (hw : w ∉ [11, 12, 13, 14, 15, 16, 17])
    (ht : tok t) (htd : tdV σ 11 t) (h17 : ∀ p, p < tP t → σ.1 17 p = nI (f p)) (h161 : σ.1 16 1 = nI th) (hth : th < 2 ^ tP t) (h162 : σ.1 16 2 = nI sd) (hsd : sd < 256) (hn : n < 256) (hf : ∀ p, p < tP t → f p ≤ 90000) (hQ : ∀ τ, ch [c, w] σ τ → Q (some (.int (nI (lst th (fwd t f sd n))))) τ) :
    Ev (d + 2) 66 0 [some (.ref ah), some (.ref 11), some (.ref 16), some (.int (nI n)), none] [] σ Q := by
  obtain ⟨t1, t2, t3⟩ := id ht
  obtain ⟨d1, d2, d3⟩ := htd
  rw [sr11_0, sr11_1] at d3
  simp only [List.mem_cons, List.not_mem_nil, or_false, not_or] at hc hw
  have hcw : c ≠ w := fun e => by rw [e, kw] at kc; cases kc
  have c35' := fun Q => c35 (d := d) (c := c) (w := w) (c2 := 16) (w2 := 17) (σ := σ) (Q := Q) kc sk16 rc rfl kw sk17 nw sn17 (by omega)
  simp only [e66_0, e66_1, e66_4, e66_5, e66_8, e66_9, true_or, or_true, true_and, and_true, Option.toList, List.cons_append, List.nil_append, if_true, if_false, reduceIte, ka, ra, kc, c35']
  generalize hσ1 : ab_wI (ab_wI σ w (cpN 6 (σ.1 17) (σ.1 w))) c (upd (upd (upd (upd (σ.1 c) 1 (σ.1 16 1)) 2 (σ.1 16 2)) 3 (σ.1 16 3)) 4 (σ.1 16 4)) = σ1
  have s1w : σ1.1 w = cpN 6 (σ.1 17) (σ.1 w) := by rw [← hσ1, wI_ne _ _ (fun e => hcw e.symm), wI_eq]
  have s1c : σ1.1 c 1 = nI th := by rw [← hσ1, wI_eq]; simp only [wI_get, upd_get, Nat.reduceEqDiff, reduceIte, if_true, if_false]; exact h161
  have s1o : ∀ k, k ≠ c → k ≠ w → σ1.1 k = σ.1 k := fun k h1 h2 => by rw [← hσ1, wI_ne _ _ h1, wI_ne _ _ h2]
  have s1ch : ch [c, w] σ σ1 := by rw [← hσ1]; exact ch_w (ch_w (ch_rf _ _) (by simp)) (by simp)
  clear hσ1
  generalize hgw : (fun (i : Nat) (p : Nat) => if p < tP t then nI (f p + sm (nd n sd) (fun s => if tw t s = p then tz t s else 0) i) else cpN 6 (σ.1 17) (σ.1 w) p) = gw
  have gwE : ∀ i p, gw i p = if p < tP t then nI (f p + sm (nd n sd) (fun s => if tw t s = p then tz t s else 0) i) else cpN 6 (σ.1 17) (σ.1 w) p := fun i p => by rw [← hgw]
  clear hgw
  have gw0 : σ1 = ab_wI σ1 w (gw 0) := by
    have : gw 0 = σ1.1 w := by
      funext p
      rw [gwE, s1w]
      by_cases hp : p < tP t
      · rw [if_pos hp]
        show nI (f p + 0) = _
        unfold cpN
        rw [if_pos (by omega), h17 p hp]
        rfl
      · rw [if_neg hp]
    rw [this, wI_self]
  have o11 : ∀ g, (ab_wI σ1 w g).1 11 = σ.1 11 := fun g => by rw [wI_ne _ _ (by omega), s1o 11 (by omega) (by omega)]
  have o12 : ∀ g, (ab_wI σ1 w g).1 12 = σ.1 12 := fun g => by rw [wI_ne _ _ (by omega), s1o 12 (by omega) (by omega)]
  have o13 : ∀ g, (ab_wI σ1 w g).1 13 = σ.1 13 := fun g => by rw [wI_ne _ _ (by omega), s1o 13 (by omega) (by omega)]
  have o16 : ∀ g, (ab_wI σ1 w g).1 16 = σ.1 16 := fun g => by rw [wI_ne _ _ (by omega), s1o 16 (by omega) (by omega)]
  have hnd : nd n sd < 256 := nd_lt (n := 8) hn
  have l1 := ev_up (fun i => Ev (d + 1 + 1) 66 11 [some (.ref ah), some (.ref 11), some (.ref 16), some (.int (nI n)), some (.int (nI i))] [] (ab_wI σ1 w (gw i)) Q) (tS t) (fun i hi => by
    rw [e66_11]
    have hge : (nI (tS t) ≤ nI i) = False := eq_false (nI_ge hi (by omega))
    have hb : tw t i < 6 := by have := (t3 i hi).1; omega
    cases hbit : (nd n sd).testBit i
    · have : gw (i + 1) = gw i := by
        funext p
        rw [gwE, gwE, sm_s, hbit]
        simp
      simp only [e66_13, e66_14, e66_17, e66_20, e66_21, e66_22, e66_25, e66_26, e66_27, e66_28, e66_30, e66_33, e66_36, e66_37, e66_40, e66_43, e66_44, e66_47, e66_49, e66_50, e66_51, e66_52, e66_53, e66_56, e66_58, e66_59, e66_60, e66_61, e66_64, true_or, or_true, true_and, and_true, Option.toList, List.cons_append, List.nil_append, if_true, if_false, reduceIte, ka, ra, kc, rc, kw, nw, sk11, sk16, o11, o16, d2, hge, h162, nI_nd (a := n) (b := sd) (by omega) (by omega), c32 (s := nd n sd) (k := i) (by omega) (by omega), bI_0, hbit, nI_1, this]
    · have hu : upd (gw i) (tw t i) (nI (f (tw t i) + sm (nd n sd) (fun s => if tw t s = tw t i then tz t s else 0) i + tz t i)) = gw (i + 1) := by
        funext p
        rw [upd_get, gwE, gwE, sm_s, hbit]
        by_cases e : p = tw t i
        · subst e
          rw [if_pos rfl, if_pos (t3 i hi).1]
          simp only [if_true]
          congr 1
          omega
        · rw [if_neg e]
          have e2 : ¬ tw t i = p := fun z => e z.symm
          simp only [if_neg e2, if_true]
          rfl
      simp only [e66_13, e66_14, e66_17, e66_20, e66_21, e66_22, e66_25, e66_26, e66_27, e66_28, e66_30, e66_33, e66_36, e66_37, e66_40, e66_43, e66_44, e66_47, e66_49, e66_50, e66_51, e66_52, e66_53, e66_56, e66_58, e66_59, e66_60, e66_61, e66_64, true_or, or_true, true_and, and_true, Option.toList, List.cons_append, List.nil_append, if_true, if_false, reduceIte, ka, ra, kc, rc, kw, nw, sk11, sk12, sk13, sn12, sn13, sk16, sr11_0, sr11_1, o11, o12, o13, o16, d2, hge, h162, nI_nd (a := n) (b := sd) (by omega) (by omega), c32 (s := nd n sd) (k := i) (by omega) (by omega), bI_0, hbit, Bool.true_eq_false, in_eq (j := i) (n := 8) (by omega) (by decide), nI_clamp (n := i) (by omega), (d3 i hi).1, (d3 i hi).2.1, in_eq (j := tw t i) (n := 6) hb (by decide), nI_clamp (n := tw t i) (by omega), wI_eq, gwE i (tw t i), if_pos (t3 i hi).1, nI_add, wI_wI, hu, nI_1])
  rw [show (some (Value.int (0 : Int32))) = some (.int (nI 0)) from rfl]
  rw [← gw0] at l1
  rw [l1, e66_11]
  have hge : (nI (tS t) ≤ nI (tS t)) = True := eq_true (nI_le (Nat.le_refl _) (by omega))
  have hst : stV (ab_wI σ1 w (gw (tS t))) c (fwd t f sd n) th := by
    refine ⟨fun p hp => ?_, ?_, Nat.lt_of_lt_of_le hth (two_le _ t1), fun p hp => ?_⟩
    · rw [rc, wI_eq, gwE, if_pos (bit_lt hth hp)]; rfl
    · rw [wI_ne _ _ hcw]; exact s1c
    · have := fwd_le ht f sd n p
      have := hf p (bit_lt hth hp)
      omega
  simp only [e66_13, e66_14, e66_17, e66_20, e66_21, e66_22, e66_25, e66_26, e66_27, e66_28, e66_30, e66_33, e66_36, e66_37, e66_40, e66_43, e66_44, e66_47, e66_49, e66_50, e66_51, e66_52, e66_53, e66_56, e66_58, e66_59, e66_60, e66_61, e66_64, e66_67, e66_68, e66_71, e66_74, true_or, or_true, true_and, and_true, Option.toList, List.cons_append, List.nil_append, if_true, if_false, reduceIte, ka, ra, kc, sk11, o11, d2, hge, c38 (d := d) (c := c) (show stO c from ⟨kc, by rw [rc]; exact kw, by rw [rc]; exact nw⟩) hst]
  exact hQ _ (ch_w s1ch (by simp))
