/-! THE MODEL GOES THROUGH ALL ORDERS -/
def unm (n m : Nat) : Nat := itn (fun s a => if n.testBit s = true then a else a + 1) m 0
def un (t : gT) (n : Nat) : Nat := unm n (tS t)
theorem unm_s (n m : Nat) : unm n (m + 1) = if n.testBit m = true then unm n m else unm n m + 1 := rfl
theorem unm_le (n m : Nat) : unm n m ≤ m := by
  induction m with
  | zero => exact Nat.le_refl _
  | succ m ih => rw [unm_s]; split <;> omega
theorem unm_add {n s : Nat} (h : n.testBit s = false) (m : Nat) : unm n m = unm (n ||| 2 ^ s) m + (if s < m then 1 else 0) := by
  induction m with
  | zero => rfl
  | succ m ih =>
    rw [unm_s, unm_s, ih, bit_set]
    by_cases e : s = m
    · subst e
      simp [h]
    · have : decide (s = m) = false := decide_eq_false e
      rw [this, Bool.or_false]
      have e2 : (s < m + 1) = (s < m) := propext (by omega)
      simp only [e2]
      split <;> omega
theorem un_add {t : gT} {n s : Nat} (h : n.testBit s = false) (hs : s < tS t) : un t n = un t (n ||| 2 ^ s) + 1 := by
  unfold un
  rw [unm_add h, if_pos hs]
def itf {A : Type} (step : Nat → A → A) : Nat → Nat → A → A
  | 0, _, a => a
  | m + 1, s, a => itf step m (s + 1) (step s a)
/-- s may come next -/
def okS (t : gT) (f : Nat → Nat) (th sd T : Nat) (tg : Int32) (n : Nat) (l : Int32) (s : Nat) : Bool := !decide (nI s = tg) && (can t f th sd n l s && decide (spt t sd n + tz t s ≤ T))
def dfs {A : Type} (t : gT) (f : Nat → Nat) (th sd T : Nat) (tg : Int32) (up : Nat → Int32 → List Nat → A → A) : Nat → Nat → Int32 → List Nat → A → A
  | 0, _, _, _, a => a
  | k + 1, n, l, ls, a => itf (fun s a => if okS t f th sd T tg n l s = true then dfs t f th sd T tg up k (n ||| 2 ^ s) (nI s) (ls ++ [s]) (up (n ||| 2 ^ s) (nI s) (ls ++ [s]) a) else a) (tS t) 0 a
theorem gA_lt {ls : List Nat} {s j : Nat} (h : j < ls.length) : (ls ++ [s]).getD j 0 = ls.getD j 0 := by
  simp [List.getD, List.getElem?_append, h]
theorem gA_eq (ls : List Nat) (s : Nat) : (ls ++ [s]).getD ls.length 0 = s := by simp [List.getD]
theorem gA_len (ls : List Nat) (s : Nat) : (ls ++ [s]).length = ls.length + 1 := by simp
theorem nd_back {n s : Nat} (h : n.testBit s = false) : nd (n ||| 2 ^ s) (2 ^ s) = n := by
  apply bits_ext
  intro i
  rw [nd_bit, bit_set, Nat.testBit_two_pow]
  by_cases e : s = i
  · subst e; simp [h]
  · simp [e]
/-- takeBack -/
theorem c136 {d j s x n : Nat} {t : gT} {τ : ab_St} {Q : Option Value → ab_St → Prop} (ht : tok t) (hm : mdV τ t) (hj : j < 9) (hs : s < tS t) (h66 : τ.1 66 j = nI s) (h29 : τ.1 50 29 = nI n) (hn : n < 256) (h65 : τ.1 65 (tw t s) = nI (x + tz t s)) :
    Ev d 136 0 [some (.ref 50), some (.int (nI j)), none] [] τ Q = Q none (ab_wI (ab_wI τ 65 (upd (τ.1 65) (tw t s) (nI x))) 50 (upd (upd (τ.1 50) 29 (nI (nd n (2 ^ s)))) 30 (τ.1 67 j))) := by
  obtain ⟨t1, t2, t3⟩ := ht
  obtain ⟨w1, w2, w3⟩ := hm
  have hw := (t3 s hs).1
  have hp : 2 ^ s < 256 := Nat.pow_lt_pow_right (m := s) (n := 8) (by decide) (by omega)
  have n4 : ∀ g h, ab_wI (ab_wI τ 50 g) 65 h = ab_wI (ab_wI τ 65 h) 50 g := fun g h => wI_comm _ _ _ (by decide)
  have es : nI (x + tz t s) - nI (tz t s) = nI x := by rw [pk_sub (by omega), Nat.add_sub_cancel]
  simp only [e136_0, e136_1, e136_4, e136_5, e136_6, e136_7, e136_8, e136_9, e136_12, e136_13, e136_14, e136_15, e136_16, e136_17, e136_18, e136_21, e136_22, e136_25, e136_26, e136_29, e136_30, e136_31, e136_32, e136_33, e136_34, e136_37, e136_38, e136_39, e136_40, e136_41, e136_42, e136_43, e136_46, e136_47, e136_48, e136_51, true_or, or_true, true_and, and_true, Option.toList, List.cons_append, List.nil_append, if_true, if_false, reduceIte, wI_get, upd_get, Nat.reduceEqDiff, reduceIte, if_true, if_false, sk50, sk53, sn53, sk54, sn54, sk65, sn65, sk66, sn66, sk67, sn67, sr50_28, sr50_9, sr50_10, sr50_31, sr50_32, in_eq (j := j) (n := 9) hj (by decide), nI_clamp (n := j) (by omega), h66, h29, nI_shl (k := s) (by omega), nI_nd (a := n) (b := 2 ^ s) (by omega) (by omega), in_eq (j := s) (n := 8) (by omega) (by decide), nI_clamp (n := s) (by omega), (w3 s hs).1, (w3 s hs).2.1, in_eq (j := tw t s) (n := 6) (by omega) (by decide), nI_clamp (n := tw t s) (by omega), h65, es, n4, wI_wI]
def FRM (σ τ : ab_St) : Prop := (∀ c, c ∉ [50, 65, 66, 67, 68] → τ.1 c = σ.1 c) ∧ ∀ k, k ∉ [29, 30, 34] → τ.1 50 k = σ.1 50 k
theorem FRM_rf (σ : ab_St) : FRM σ σ := ⟨fun _ _ => rfl, fun _ _ => rfl⟩
theorem FRM_w {σ τ : ab_St} {c : Nat} {g : Nat → Int32} (h : FRM σ τ) (hc : c ∈ [65, 66, 67, 68]) : FRM σ (ab_wI τ c g) := by
  have hc5 : 50 ≠ c := fun e => by rw [← e] at hc; revert hc; decide
  refine ⟨fun k hk => ?_, fun k hk => ?_⟩
  · have hm : ∀ c ∈ [65, 66, 67, 68], c ∈ [50, 65, 66, 67, 68] := by decide
    have hne : k ≠ c := fun e => hk (e ▸ hm c hc)
    rw [wI_ne τ g hne]; exact h.1 k hk
  · rw [wI_ne τ g hc5]; exact h.2 k hk
theorem FRM_50 {σ τ : ab_St} {g : Nat → Int32} (h : FRM σ τ) (hg : ∀ k, k ∉ [29, 30, 34] → g k = τ.1 50 k) : FRM σ (ab_wI τ 50 g) := by
  refine ⟨fun k hk => ?_, fun k hk => ?_⟩
  · have hne : k ≠ 50 := fun e => hk (by rw [e]; decide)
    rw [wI_ne τ _ hne]; exact h.1 k hk
  · rw [wI_eq, hg k hk]; exact h.2 k hk
theorem FRM_md {σ τ : ab_St} {t : gT} (h : FRM σ τ) (hm : mdV σ t) : mdV τ t := mdV_ag hm (fun c hc => h.1 c (by revert c; decide)) (fun k hk => h.2 k (by revert k; decide))
/-- the model stands at n, behind the row ls -/
def NV (t : gT) (f : Nat → Nat) (sd : Nat) (τ : ab_St) (n : Nat) (l : Int32) (ls : List Nat) : Prop := τ.1 50 29 = nI n ∧ τ.1 50 30 = l ∧ (∀ p, p < tP t → τ.1 65 p = nI (fwd t f sd n p)) ∧ ∀ j, j < ls.length → τ.1 66 j = nI (ls.getD j 0)
theorem NV_ml {t : gT} {f : Nat → Nat} {th sd n : Nat} {l : Int32} {ls : List Nat} {σ τ : ab_St} (ht : tok t) (h : NV t f sd τ n l ls) (hF : FRM σ τ) (hm : mdV σ t) (h7 : σ.1 50 7 = nI th) (hth : th < 2 ^ tP t) (hf : ∀ p, p < tP t → f p ≤ 90000) : mlV τ (tP t) (fwd t f sd n) th :=
  ⟨(FRM_md hF hm).1, fun p hp => h.2.2.1 p (bit_lt hth hp), by rw [hF.2 7 (by decide)]; exact h7, hth, ht.1, fun p hp => by
    have := fwd_le ht f sd n p
    have := hf p (bit_lt hth hp)
    omega⟩
set_option maxHeartbeats 16000000 in
theorem dfs_c {A : Type} {t : gT} {f : Nat → Nat} {th sd T : Nat} {la tg : Int32} {fd : A → Int32} {AC : (Nat → Int32) → Int32 → A → Prop} {up : Nat → Int32 → List Nat → A → A} {d : Nat} {σ : ab_St} {Q : Option Value → ab_St → Prop}
    (ht : tok t) (hm : mdV σ t) (h7 : σ.1 50 7 = nI th) (hth : th < 2 ^ tP t) (hsd : sd < 2 ^ tS t) (hf : ∀ p, p < tP t → f p ≤ 90000) (hT : T ≤ 100000)
    (hup : ∀ (n : Nat) (l : Int32) (ls : List Nat) (a : A) (τ : ab_St) (l7 l8 : Option Value), Rc t f th sd la n l → NV t f sd τ n l ls → ls.length ≤ 8 → AC (τ.1 68) (τ.1 50 34) a → FRM σ τ →
      (∀ (τ' : ab_St) (l8' : Option Value), NV t f sd τ' n l ls → AC (τ'.1 68) (τ'.1 50 34) (up n l ls a) → FRM σ τ' → τ'.1 66 = τ.1 66 → τ'.1 67 = τ.1 67 → Ev (d + 3) 135 334 [some (.ref 50), some (.int (nI T)), some (.int tg), some (.int (fd (up n l ls a))), some (.int (nI (spt t sd n))), some (.int (nI (gnd t sd n))), some (.int (nI ls.length)), l7, l8'] [] τ' Q) →
      Ev (d + 3) 135 253 [some (.ref 50), some (.int (nI T)), some (.int tg), some (.int (fd a)), some (.int (nI (spt t sd n))), some (.int (nI (gnd t sd n))), some (.int (nI ls.length)), l7, l8] [] τ Q) :
    ∀ (k n : Nat) (l : Int32) (ls : List Nat) (a : A) (τ : ab_St) (l8 : Option Value), un t n < k → ls.length + un t n ≤ 8 → Rc t f th sd la n l → NV t f sd τ n l ls → AC (τ.1 68) (τ.1 50 34) a → FRM σ τ →
      (∀ (τ' : ab_St) (l7 l8 : Option Value), NV t f sd τ' n l ls → AC (τ'.1 68) (τ'.1 50 34) (dfs t f th sd T tg up k n l ls a) → FRM σ τ' → (∀ j, j < ls.length → τ'.1 67 j = τ.1 67 j) → Ev (d + 3) 135 140 [some (.ref 50), some (.int (nI T)), some (.int tg), some (.int (fd (dfs t f th sd T tg up k n l ls a))), some (.int (nI (spt t sd n))), some (.int (nI (gnd t sd n))), some (.int (nI ls.length)), l7, l8] [] τ' Q) →
      Ev (d + 3) 135 87 [some (.ref 50), some (.int (nI T)), some (.int tg), some (.int (fd a)), some (.int (nI (spt t sd n))), some (.int (nI (gnd t sd n))), some (.int (nI ls.length)), some (.int (nI 0)), l8] [] τ Q := by
  have h8 := ht.2.1
  have h256 := two_le8 _ h8
  intro k
  induction k with
  | zero => intro n l ls a τ l8 hk; omega
  | succ k ihk =>
    intro n l ls a0 τ0 l80 hk hlen hr hN0 hA0 hF0 H
    have hn := Rc_lt hsd hr
    have inner : ∀ (m s : Nat) (a : A) (τ : ab_St) (l8 : Option Value), s + m = tS t → NV t f sd τ n l ls → AC (τ.1 68) (τ.1 50 34) a → FRM σ τ → (∀ j, j < ls.length → τ.1 67 j = τ0.1 67 j) →
        itf (fun s a => if okS t f th sd T tg n l s = true then dfs t f th sd T tg up k (n ||| 2 ^ s) (nI s) (ls ++ [s]) (up (n ||| 2 ^ s) (nI s) (ls ++ [s]) a) else a) m s a = dfs t f th sd T tg up (k + 1) n l ls a0 →
        Ev (d + 3) 135 87 [some (.ref 50), some (.int (nI T)), some (.int tg), some (.int (fd a)), some (.int (nI (spt t sd n))), some (.int (nI (gnd t sd n))), some (.int (nI ls.length)), some (.int (nI s)), l8] [] τ Q := by
      intro m
      induction m with
      | zero =>
        intro s a τ l8 hs hN hA hF h67 hit
        have hs2 : s = tS t := by omega
        subst hs2
        have e8 : τ.1 50 8 = nI (tS t) := (FRM_md hF hm).2.1
        have hge : (nI (tS t) ≤ nI (tS t)) = True := eq_true (nI_le (Nat.le_refl _) (by omega))
        have hit' : a = dfs t f th sd T tg up (k + 1) n l ls a0 := hit
        rw [e135_87]
        simp only [e135_89, e135_90, e135_93, e135_131, e135_133, e135_134, e135_137, true_or, or_true, true_and, and_true, Option.toList, List.cons_append, List.nil_append, if_true, if_false, reduceIte, sk50, e8, hge]
        rw [hit']
        exact H τ _ _ hN (by rw [← hit']; exact hA) hF h67
      | succ m ihm =>
        intro s a τ l8 hs hN hA hF h67 hit
        have hss : s < tS t := by omega
        have hmd := FRM_md hF hm
        have e8 : τ.1 50 8 = nI (tS t) := hmd.2.1
        have hge : (nI (tS t) ≤ nI s) = False := eq_false (nI_ge hss (by omega))
        have hsz := (hmd.2.2 s hss).2.1
        have hz9 := (ht.2.2 s hss).2.2.1
        have hv9 := (ht.2.2 s hss).2.2.2.1
        have hw := (ht.2.2 s hss).1
        have hsp := spt_le ht sd n
        have hgp := gnd_le ht sd n
        have hml := NV_ml ht hN hF hm h7 hth hf
        have c122' := fun Q => c122 (d := d) (s := s) (σ := τ) (Q := Q) ht hmd hml hN.1 hN.2.1 (by omega) hss
        have hit2 : itf (fun s a => if okS t f th sd T tg n l s = true then dfs t f th sd T tg up k (n ||| 2 ^ s) (nI s) (ls ++ [s]) (up (n ||| 2 ^ s) (nI s) (ls ++ [s]) a) else a) m (s + 1) (if okS t f th sd T tg n l s = true then dfs t f th sd T tg up k (n ||| 2 ^ s) (nI s) (ls ++ [s]) (up (n ||| 2 ^ s) (nI s) (ls ++ [s]) a) else a) = dfs t f th sd T tg up (k + 1) n l ls a0 := hit
        have i8 := in_eq (j := s) (n := 8) (by omega) (by decide)
        have cs8 := nI_clamp (n := s) (by omega)
        have eT : (nI (spt t sd n + tz t s) ≤ nI T) = (spt t sd n + tz t s ≤ T) := propext (nI_leI (by omega) (by omega))
        rw [e135_87]
        cases hok : okS t f th sd T tg n l s
        · rw [hok, if_neg (by decide)] at hit2
          have go : Ev (d + 3) 135 87 [some (.ref 50), some (.int (nI T)), some (.int tg), some (.int (fd a)), some (.int (nI (spt t sd n))), some (.int (nI (gnd t sd n))), some (.int (nI ls.length)), some (.int (nI (s + 1))), l8] [] τ Q := ihm (s + 1) a τ l8 (by omega) hN hA hF h67 hit2
          unfold okS can at hok
          by_cases e1 : nI s = tg
          · simp only [e135_89, e135_90, e135_93, e135_96, e135_98, e135_99, e135_102, e135_103, e135_105, e135_108, e135_111, e135_113, e135_114, e135_117, e135_119, e135_120, e135_121, e135_122, e135_125, e135_128, true_or, or_true, true_and, and_true, Option.toList, List.cons_append, List.nil_append, if_true, if_false, reduceIte, sk50, e8, hge, eq_true e1, nI_1]
            exact go
          · cases e2 : alw t (fwd t f sd n) th n l s
            · simp only [e135_89, e135_90, e135_93, e135_96, e135_98, e135_99, e135_102, e135_103, e135_105, e135_108, e135_111, e135_113, e135_114, e135_117, e135_119, e135_120, e135_121, e135_122, e135_125, e135_128, true_or, or_true, true_and, and_true, Option.toList, List.cons_append, List.nil_append, if_true, if_false, reduceIte, sk50, e8, hge, eq_false e1, c122', e2, bI_0, nI_1]
              exact go
            · have e3 : ¬ spt t sd n + tz t s ≤ T := fun z => by
                rw [decide_eq_false e1, e2, decide_eq_true z] at hok
                exact absurd hok (by decide)
              simp only [e135_89, e135_90, e135_93, e135_96, e135_98, e135_99, e135_102, e135_103, e135_105, e135_108, e135_111, e135_113, e135_114, e135_117, e135_119, e135_120, e135_121, e135_122, e135_125, e135_128, true_or, or_true, true_and, and_true, Option.toList, List.cons_append, List.nil_append, if_true, if_false, reduceIte, sk50, e8, hge, eq_false e1, c122', e2, bI_0, Bool.true_eq_false, sr50_10, sk54, sn54, i8, cs8, hsz, nI_add, eT, eq_false e3, nI_1]
              exact go
        · rw [hok, if_pos rfl] at hit2
          unfold okS at hok
          simp only [Bool.and_eq_true, Bool.not_eq_true', decide_eq_false_iff_not, decide_eq_true_eq] at hok
          obtain ⟨e1, hcan, e3⟩ := hok
          have e2 : alw t (fwd t f sd n) th n l s = true := hcan
          have hns := can_n hcan
          have hun := un_add hns hss
          have hne : (nI s = nI (tS t)) = False := eq_false (fun e => by have := nI_inj (by omega) (by omega) e; omega)
          have iL := in_eq (j := ls.length) (n := 9) (by omega) (by decide)
          have cL := nI_clamp (n := ls.length) (by omega)
          have iL1 := in_eq (j := ls.length + 1) (n := 9) (by omega) (by decide)
          have cL1 := nI_clamp (n := ls.length + 1) (by omega)
          simp only [e135_89, e135_90, e135_93, e135_96, e135_98, e135_99, e135_102, e135_103, e135_105, e135_108, e135_111, e135_113, e135_114, e135_117, e135_119, e135_120, e135_121, e135_122, e135_125, e135_128, e135_131, e135_133, e135_134, e135_137, e135_191, e135_192, e135_195, e135_197, e135_199, e135_200, e135_201, e135_204, e135_206, e135_207, e135_210, e135_211, e135_212, true_or, or_true, true_and, and_true, Option.toList, List.cons_append, List.nil_append, if_true, if_false, reduceIte, wI_get, upd_get, Nat.reduceEqDiff, reduceIte, if_true, if_false, sk50, e8, hge, eq_false e1, c122', e2, bI_0, Bool.true_eq_false, sr50_10, sk54, sn54, i8, cs8, hsz, nI_add, eT, eq_true e3, hne, sr50_31, sr50_32, sk66, sn66, sk67, sn67, iL, cL, hN.2.1]
          generalize hτ1 : ab_wI (ab_wI τ 66 (upd (τ.1 66) ls.length (nI s))) 67 (upd (τ.1 67) ls.length l) = τ1
          have F1 : FRM σ τ1 := by rw [← hτ1]; exact FRM_w (FRM_w hF (by decide)) (by decide)
          have o1 : ∀ c, c ≠ 66 → c ≠ 67 → τ1.1 c = τ.1 c := fun c q1 q2 => by rw [← hτ1, wI_ne _ _ q2, wI_ne _ _ q1]
          have o166 : τ1.1 66 = upd (τ.1 66) ls.length (nI s) := by rw [← hτ1, wI_ne _ _ (by decide), wI_eq]
          have o167 : τ1.1 67 = upd (τ.1 67) ls.length l := by rw [← hτ1, wI_eq]
          clear hτ1
          have c133' := fun Q => c133 (d := d + 2) (s := s) (x := fwd t f sd n (tw t s)) (sd := n) (σ := τ1) (Q := Q) ht (FRM_md F1 hm) hss (by rw [o1 65 (by decide) (by decide)]; exact hN.2.2.1 _ hw) (by rw [o1 50 (by decide) (by decide)]; exact hN.1) (by omega)
          simp only [e135_214, true_or, or_true, true_and, and_true, Option.toList, List.cons_append, List.nil_append, if_true, if_false, reduceIte, sk50, c133']
          generalize hτ2 : ab_wI (ab_wI τ1 65 (upd (τ1.1 65) (tw t s) (nI (fwd t f sd n (tw t s) + tz t s)))) 50 (upd (upd (τ1.1 50) 29 (nI (n ||| 2 ^ s))) 30 (nI s)) = τ2
          have F2 : FRM σ τ2 := by
            rw [← hτ2]
            refine FRM_50 (FRM_w F1 (by decide)) (fun j hj => ?_)
            simp only [List.mem_cons, List.not_mem_nil, or_false, not_or] at hj
            rw [upd_ne _ _ hj.2.1, upd_ne _ _ hj.1, wI_ne _ _ (by decide)]
          have t265 : τ2.1 65 = upd (τ1.1 65) (tw t s) (nI (fwd t f sd n (tw t s) + tz t s)) := by rw [← hτ2, wI_ne _ _ (by decide), wI_eq]
          have t250 : τ2.1 50 = upd (upd (τ1.1 50) 29 (nI (n ||| 2 ^ s))) 30 (nI s) := by rw [← hτ2, wI_eq]
          have o2 : ∀ c, c ≠ 50 → c ≠ 65 → τ2.1 c = τ1.1 c := fun c q1 q2 => by rw [← hτ2, wI_ne _ _ q1, wI_ne _ _ q2]
          clear hτ2
          have hmd2 := FRM_md F2 hm
          have es : spt t sd n + tz t s = spt t sd (n ||| 2 ^ s) := (Rc_spt hr hss hcan).symm
          have eg : gnd t sd n + tv t s = gnd t sd (n ||| 2 ^ s) := (Rc_gnd hr hss hcan).symm
          simp only [e135_217, e135_219, e135_220, e135_223, e135_225, e135_226, e135_227, e135_229, e135_231, e135_232, e135_235, e135_237, e135_238, e135_239, e135_241, e135_244, e135_245, e135_248, e135_250, e135_252, true_or, or_true, true_and, and_true, Option.toList, List.cons_append, List.nil_append, if_true, if_false, reduceIte, sk50, sr50_10, sr50_11, sr50_31, sk54, sn54, sk55, sn55, sk66, sn66, i8, cs8, (hmd2.2.2 s hss).2.1, (hmd2.2.2 s hss).2.2.1, nI_add, es, eg, nI_1, iL1, cL1]
          generalize hτ3 : ab_wI τ2 66 (upd (τ2.1 66) (ls.length + 1) (-9)) = τ3
          have F3 : FRM σ τ3 := by rw [← hτ3]; exact FRM_w F2 (by decide)
          have t366 : τ3.1 66 = upd (upd (τ.1 66) ls.length (nI s)) (ls.length + 1) (-9) := by rw [← hτ3, wI_eq, o2 66 (by decide) (by decide), o166]
          have o3 : ∀ c, c ≠ 66 → τ3.1 c = τ2.1 c := fun c q => by rw [← hτ3, wI_ne _ _ q]
          clear hτ3
          have t367 : τ3.1 67 = upd (τ.1 67) ls.length l := by rw [o3 67 (by decide), o2 67 (by decide) (by decide), o167]
          have hfw := Rc_fwd hr hss hcan
          have N3 : NV t f sd τ3 (n ||| 2 ^ s) (nI s) (ls ++ [s]) := by
            refine ⟨?_, ?_, fun p hp => ?_, fun j hj => ?_⟩
            · rw [o3 50 (by decide), t250]; rfl
            · rw [o3 50 (by decide), t250]; rfl
            · rw [o3 65 (by decide), t265, o1 65 (by decide) (by decide), hfw]
              unfold utw
              by_cases e : p = tw t s
              · rw [if_pos e, e, upd_eq]
              · rw [if_neg e, upd_ne _ _ e]; exact hN.2.2.1 p hp
            · rw [gA_len] at hj
              rw [t366, upd_ne _ _ (by omega)]
              by_cases e : j = ls.length
              · rw [e, upd_eq, gA_eq]
              · rw [upd_ne _ _ e, gA_lt (by omega)]; exact hN.2.2.2 j (by omega)
          have A3 : AC (τ3.1 68) (τ3.1 50 34) a := by
            rw [o3 68 (by decide), o2 68 (by decide) (by decide), o1 68 (by decide) (by decide), o3 50 (by decide), t250]
            simp only [wI_get, upd_get, Nat.reduceEqDiff, reduceIte, if_true, if_false]
            rw [o1 50 (by decide) (by decide)]
            exact hA
          have hr2 := Rc_s hr hss hcan
          have hupc := hup (n ||| 2 ^ s) (nI s) (ls ++ [s]) a τ3 (some (.int (nI s))) l8 hr2 N3 (by rw [gA_len]; omega) A3 F3
          rw [gA_len] at hupc
          refine hupc (fun τ4 l84 N4 A4 F4 e466 e467 => ?_)
          have hpos : (nI (ls.length + 1) < 0) = False := eq_false (nI_pos (by omega))
          have t46 : τ4.1 66 (ls.length + 1) = -9 := by rw [e466, t366, upd_eq]
          simp only [e135_334, e135_55, e135_57, e135_60, e135_61, e135_64, e135_66, e135_67, e135_69, e135_72, e135_73, e135_76, e135_77, e135_80, e135_82, e135_83, e135_84, e135_85, true_or, or_true, true_and, and_true, Option.toList, List.cons_append, List.nil_append, if_true, if_false, reduceIte, sk50, hpos, sr50_31, sk66, sn66, iL1, cL1, t46]
          have ihk' := ihk (n ||| 2 ^ s) (nI s) (ls ++ [s]) (up (n ||| 2 ^ s) (nI s) (ls ++ [s]) a) τ4 l84 (by omega) (by rw [gA_len]; omega) hr2 N4 A4 F4
          rw [gA_len] at ihk'
          refine ihk' (fun τ5 l7 l85 N5 A5 F5 e567 => ?_)
          have hpos2 : (nI ls.length < 0) = False := eq_false (nI_pos (by omega))
          have t566 : τ5.1 66 ls.length = nI s := by rw [N5.2.2.2 ls.length (by rw [gA_len]; omega), gA_eq]
          have t567 : τ5.1 67 ls.length = l := by rw [e567 ls.length (by omega), e467, t367, upd_eq]
          have hmd5 := FRM_md F5 hm
          have t565 : τ5.1 65 (tw t s) = nI (fwd t f sd n (tw t s) + tz t s) := by
            rw [N5.2.2.1 _ hw, hfw]
            unfold utw
            rw [if_pos rfl]
          have c136' := fun Q => c136 (d := d + 2) (j := ls.length) (s := s) (x := fwd t f sd n (tw t s)) (n := n ||| 2 ^ s) (τ := τ5) (Q := Q) ht hmd5 (by omega) hss t566 N5.1 (by have := or_lt hn hss; omega) t565
          simp only [e135_140, e135_143, e135_145, e135_148, e135_149, e135_151, true_or, or_true, true_and, and_true, Option.toList, List.cons_append, List.nil_append, if_true, if_false, reduceIte, sk50, pk_m1, hpos2, c136', t567, nd_back hns]
          generalize hτ6 : ab_wI (ab_wI τ5 65 (upd (τ5.1 65) (tw t s) (nI (fwd t f sd n (tw t s))))) 50 (upd (upd (τ5.1 50) 29 (nI n)) 30 l) = τ6
          have F6 : FRM σ τ6 := by
            rw [← hτ6]
            refine FRM_50 (FRM_w F5 (by decide)) (fun j hj => ?_)
            simp only [List.mem_cons, List.not_mem_nil, or_false, not_or] at hj
            rw [upd_ne _ _ hj.2.1, upd_ne _ _ hj.1, wI_ne _ _ (by decide)]
          have t665 : τ6.1 65 = upd (τ5.1 65) (tw t s) (nI (fwd t f sd n (tw t s))) := by rw [← hτ6, wI_ne _ _ (by decide), wI_eq]
          have t650 : τ6.1 50 = upd (upd (τ5.1 50) 29 (nI n)) 30 l := by rw [← hτ6, wI_eq]
          have o6 : ∀ c, c ≠ 50 → c ≠ 65 → τ6.1 c = τ5.1 c := fun c q1 q2 => by rw [← hτ6, wI_ne _ _ q1, wI_ne _ _ q2]
          clear hτ6
          have hmd6 := FRM_md F6 hm
          have t666 : τ6.1 66 ls.length = nI s := by rw [o6 66 (by decide) (by decide)]; exact t566
          have es2 : nI (spt t sd (n ||| 2 ^ s)) - nI (tz t s) = nI (spt t sd n) := by rw [← es, pk_sub (by omega), Nat.add_sub_cancel]
          have eg2 : nI (gnd t sd (n ||| 2 ^ s)) - nI (tv t s) = nI (gnd t sd n) := by rw [← eg, pk_sub (by omega), Nat.add_sub_cancel]
          simp only [e135_154, e135_156, e135_157, e135_160, e135_161, e135_164, e135_166, e135_167, e135_168, e135_169, e135_171, e135_173, e135_174, e135_177, e135_178, e135_181, e135_183, e135_184, e135_185, e135_186, e135_188, e135_334, e135_55, e135_57, e135_60, e135_61, e135_64, e135_66, e135_67, e135_69, e135_72, e135_73, e135_76, e135_77, e135_80, e135_82, e135_83, e135_84, e135_85, true_or, or_true, true_and, and_true, Option.toList, List.cons_append, List.nil_append, if_true, if_false, reduceIte, sk50, hpos2, sr50_10, sr50_11, sr50_31, sk54, sn54, sk55, sn55, sk66, sn66, iL, cL, t666, i8, cs8, (hmd6.2.2 s hss).2.1, (hmd6.2.2 s hss).2.2.1, es2, eg2, m9_ne (n := s) (by omega), nI_1]
          refine ihm (s + 1) _ τ6 _ (by omega) ⟨?_, ?_, fun p hp => ?_, fun j hj => ?_⟩ ?_ F6 (fun j hj => ?_) hit2
          · rw [t650]; rfl
          · rw [t650]; rfl
          · rw [t665]
            by_cases e : p = tw t s
            · rw [e, upd_eq]
            · rw [upd_ne _ _ e, N5.2.2.1 p hp, hfw]
              unfold utw
              rw [if_neg e]
          · rw [o6 66 (by decide) (by decide), N5.2.2.2 j (by rw [gA_len]; omega), gA_lt hj]
          · rw [o6 68 (by decide) (by decide), t650]
            exact A5
          · rw [o6 67 (by decide) (by decide), e567 j (by omega), e467, t367, upd_ne _ _ (by omega)]
            exact h67 j hj
    exact inner (tS t) 0 a0 τ0 l80 (by omega) hN0 hA0 hF0 (fun _ _ => rfl) rfl
