/-! EACH, THE MODEL -/
section Each2
variable {t : gT} {f : Nat → Nat} {th sd : Nat}
theorem woM {p st : Nat} (hp : p < 1000) (hP : ∀ s, s < tS t → tw t s < 1000) : ∀ m, m ≤ tS t → itn (fun i a => if st.testBit i = true ∧ (nI p = -9 ∨ nI (tw t i) = nI p) then a + tv t i else a) m 0 = sm (sgo t p &&& st) (tv t) m := by
  intro m
  induction m with
  | zero => intro _; rfl
  | succ m ih =>
    intro hm
    have hb : (sgo t p &&& st).testBit m = (decide (tw t m = p) && st.testBit m) := by
      rw [Nat.testBit_and, sgo_b2, decide_eq_true (by omega), Bool.true_and]
      rfl
    have e1 : (nI p = -9) = False := m9_ne (by omega)
    have e2 : (nI (tw t m) = nI p) = (tw t m = p) := propext (nI_eq (by have := hP m (by omega); omega) (by omega))
    have hl : itn (fun i a => if st.testBit i = true ∧ (nI p = -9 ∨ nI (tw t i) = nI p) then a + tv t i else a) (m + 1) 0 = if st.testBit m = true ∧ (nI p = -9 ∨ nI (tw t m) = nI p) then sm (sgo t p &&& st) (tv t) m + tv t m else sm (sgo t p &&& st) (tv t) m := by rw [← ih (by omega)]; rfl
    rw [hl, sm_s, hb]
    by_cases h1 : tw t m = p <;> cases h2 : st.testBit m <;> simp [e1, e2, h1]
theorem lst_ltP {P : Nat} {g : Nat → Nat} (hP : P ≤ 6) (h : th < 2 ^ P) : lst th g < 2 ^ P := by
  have h64 : th < 64 := Nat.lt_of_lt_of_le h (two_le _ hP)
  apply Nat.lt_pow_two_of_testBit
  intro i hi
  cases hb : (lst th g).testBit i
  · rfl
  · have := bit_lt h ((lst_bit h64 i).mp hb).1
    omega
set_option maxHeartbeats 8000000 in
/-- endOf, the model's -/
theorem c141 {d n : Nat} {g : Nat → Nat} {σ : ab_St} {Q : Option Value → ab_St → Prop} (ht : tok t) (hm : mdV σ t) (v52 : ∀ p, p < tP t → σ.1 52 p = nI (f p)) (h7 : σ.1 50 7 = nI th) (hth : th < 2 ^ tP t) (v13 : σ.1 50 13 = nI sd) (hsd : sd < 2 ^ tS t) (hn : n < 2 ^ tS t) (hf : ∀ p, p < tP t → f p ≤ 90000)
    (hg : ∀ s, s < tS t → n.testBit s = false → σ.1 69 (n ||| 2 ^ s) = nI (g s)) (hg2 : ∀ s, s < tS t → g s < 256) (hQ : ∀ τ, FRM σ τ → Q (some (.int (nI (edN t g n (lst th (fwd t f sd n)) (tP t) n)))) τ) :
    Ev (d + 2) 141 0 [some (.ref 50), some (.int (nI n)), none, none, none, none, none] [] σ Q := by
  have h8 := ht.2.1
  have h6 := ht.1
  have h256 := two_le8 _ h8
  simp only [e141_0, e141_1, e141_4, e141_5, true_or, or_true, true_and, and_true, Option.toList, List.cons_append, List.nil_append, if_true, if_false, reduceIte, sk50, c112 (d := d + 1) hm.1 ht.1]
  have hb : FRM σ (bgn σ (tP t)) := by
    refine ⟨fun c hc => ?_, fun k hk => ?_⟩
    · simp only [List.mem_cons, List.not_mem_nil, or_false, not_or] at hc
      rw [bgn_get, if_neg hc.1, if_neg hc.2.1]
    · simp only [List.mem_cons, List.not_mem_nil, or_false, not_or] at hk
      rw [bgn_get, if_pos rfl, upd_ne _ _ hk.2.1, upd_ne _ _ hk.1]
  have b65 : ∀ p, p < tP t → (bgn σ (tP t)).1 65 p = nI (f p) := fun p hp => by rw [bgn_w hp]; exact v52 p hp
  generalize bgn σ (tP t) = σ1 at hb b65
  have hm1 := FRM_md hb hm
  have s13 : σ1.1 50 13 = nI sd := by rw [hb.2 13 (by decide)]; exact v13
  generalize hgw : (fun (i : Nat) (p : Nat) => if p < tP t then nI (f p + sm (nd n sd) (fun s => if tw t s = p then tz t s else 0) i) else σ1.1 65 p) = gw
  have gwE : ∀ i p, gw i p = if p < tP t then nI (f p + sm (nd n sd) (fun s => if tw t s = p then tz t s else 0) i) else σ1.1 65 p := fun i p => by rw [← hgw]
  clear hgw
  have gw0 : σ1 = ab_wI σ1 65 (gw 0) := by
    have : gw 0 = σ1.1 65 := by
      funext p
      rw [gwE]
      by_cases hp : p < tP t
      · rw [if_pos hp, b65 p hp]; rfl
      · rw [if_neg hp]
    rw [this, wI_self]
  have hnd : nd n sd < 256 := nd_lt (n := 8) (by omega)
  have l1 := ev_up (fun i => Ev (d + 1 + 1) 141 6 [some (.ref 50), some (.int (nI n)), some (.int (nI i)), none, none, none, none] [] (ab_wI σ1 65 (gw i)) Q) (tS t) (fun i hi => by
    rw [e141_6]
    have hge : (nI (tS t) ≤ nI i) = False := eq_false (nI_ge hi (by omega))
    have hw := (ht.2.2 i hi).1
    cases hbit : (nd n sd).testBit i
    · have hu : upd (gw i) (tw t i) (nI (f (tw t i) + sm (nd n sd) (fun s => if tw t s = tw t i then tz t s else 0) i)) = gw (i + 1) := by
        funext p
        rw [upd_get, gwE, gwE, sm_s, hbit]
        by_cases e : p = tw t i
        · subst e
          rw [if_pos rfl, if_pos hw]
          simp
        · rw [if_neg e]; simp
      simp only [e141_7, e141_8, e141_11, e141_14, e141_15, e141_18, e141_19, e141_22, e141_23, e141_24, e141_25, e141_26, e141_27, e141_28, e141_31, e141_32, e141_33, e141_34, e141_35, e141_38, e141_41, e141_42, e141_45, e141_46, e141_47, e141_50, e141_51, e141_52, e141_53, e141_56, true_or, or_true, true_and, and_true, Option.toList, List.cons_append, List.nil_append, if_true, if_false, reduceIte, wI_get, upd_get, Nat.reduceEqDiff, reduceIte, if_true, if_false, sk50, sr50_9, sr50_10, sr50_28, sk53, sn53, sk65, sn65, hm1.2.1, hge, in_eq (j := i) (n := 8) (by omega) (by decide), nI_clamp (n := i) (by omega), (hm1.2.2 i hi).1, in_eq (j := tw t i) (n := 6) (by omega) (by decide), nI_clamp (n := tw t i) (by omega), gwE i (tw t i), if_pos hw, s13, nI_nd (a := n) (b := sd) (by omega) (by omega), c113 (s := nd n sd) (k := i) (by omega) (by omega), hbit, bI_0, Int32.add_zero, wI_wI, hu, nI_1]
    · have hu : upd (gw i) (tw t i) (nI (f (tw t i) + sm (nd n sd) (fun s => if tw t s = tw t i then tz t s else 0) i + tz t i)) = gw (i + 1) := by
        funext p
        rw [upd_get, gwE, gwE, sm_s, hbit]
        by_cases e : p = tw t i
        · subst e
          rw [if_pos rfl, if_pos hw]
          simp only [if_true]
          congr 1
          omega
        · rw [if_neg e]
          have e2 : ¬ tw t i = p := fun z => e z.symm
          simp only [if_neg e2, if_true]
          rfl
      simp only [e141_7, e141_8, e141_11, e141_14, e141_15, e141_18, e141_19, e141_22, e141_23, e141_24, e141_25, e141_26, e141_27, e141_28, e141_31, e141_32, e141_33, e141_34, e141_35, e141_38, e141_41, e141_42, e141_45, e141_46, e141_47, e141_50, e141_51, e141_52, e141_53, e141_56, true_or, or_true, true_and, and_true, Option.toList, List.cons_append, List.nil_append, if_true, if_false, reduceIte, wI_get, upd_get, Nat.reduceEqDiff, reduceIte, if_true, if_false, sk50, sr50_9, sr50_10, sr50_28, sk53, sn53, sk54, sn54, sk65, sn65, hm1.2.1, hge, in_eq (j := i) (n := 8) (by omega) (by decide), nI_clamp (n := i) (by omega), (hm1.2.2 i hi).1, (hm1.2.2 i hi).2.1, in_eq (j := tw t i) (n := 6) (by omega) (by decide), nI_clamp (n := tw t i) (by omega), gwE i (tw t i), if_pos hw, s13, nI_nd (a := n) (b := sd) (by omega) (by omega), c113 (s := nd n sd) (k := i) (by omega) (by omega), hbit, bI_0, Bool.true_eq_false, nI_add, wI_wI, hu, nI_1])
  rw [show (some (Value.int (0 : Int32))) = some (.int (nI 0)) from rfl]
  rw [← gw0] at l1
  rw [l1, e141_6]
  have hge : (nI (tS t) ≤ nI (tS t)) = True := eq_true (nI_le (Nat.le_refl _) (by omega))
  generalize hτ : ab_wI σ1 65 (gw (tS t)) = τ
  have hF : FRM σ τ := by rw [← hτ]; exact FRM_w hb (by decide)
  have hmτ := FRM_md hF hm
  have t65 : ∀ p, p < tP t → τ.1 65 p = nI (fwd t f sd n p) := fun p hp => by rw [← hτ, wI_eq, gwE, if_pos hp]; rfl
  clear hτ l1
  have hml : mlV τ (tP t) (fwd t f sd n) th := ⟨hmτ.1, fun p hp => t65 p (bit_lt hth hp), by rw [hF.2 7 (by decide)]; exact h7, hth, ht.1, fun p hp => by
    have := fwd_le ht f sd n p
    have := hf p (bit_lt hth hp)
    omega⟩
  have hL := lst_ltP (g := fwd t f sd n) h6 hth
  have hL64 := lst_lt th (fwd t f sd n)
  simp only [e141_7, e141_8, e141_11, e141_14, e141_15, e141_18, e141_19, e141_22, e141_23, e141_24, e141_25, e141_26, e141_27, e141_28, e141_31, e141_32, e141_33, e141_34, e141_35, e141_38, e141_41, e141_42, e141_45, e141_46, e141_47, e141_50, e141_51, e141_52, e141_53, e141_56, e141_59, e141_60, e141_63, e141_64, e141_65, e141_66, e141_67, e141_70, e141_71, e141_72, true_or, or_true, true_and, and_true, Option.toList, List.cons_append, List.nil_append, if_true, if_false, reduceIte, sk50, hmτ.2.1, hge, c114 (d := d) hml, hmτ.1]
  generalize lst th (fwd t f sd n) = L at hL hL64 hQ
  have t69 : ∀ s, s < tS t → n.testBit s = false → τ.1 69 (n ||| 2 ^ s) = nI (g s) := fun s hs hbs => by rw [hF.1 69 (by decide)]; exact hg s hs hbs
  have c115' := fun (st p : Nat) (hst : st < 256) (hp : p < 6) Q => c115 (d := d) (st := st) (p := nI p) (σ := τ) (Q := Q) ht hmτ (by omega)
  have woE : ∀ (st p : Nat), p < 6 → itn (fun i a => if st.testBit i = true ∧ (nI p = -9 ∨ nI (tw t i) = nI p) then a + tv t i else a) (tS t) 0 = wo t p st := fun st p hp => woM (by omega) (fun s hs => by have := (ht.2.2 s hs).1; omega) (tS t) (Nat.le_refl _)
  have key : ∀ (j e : Nat) (l5 l6 : Option Value), j ≤ tP t → e < 256 → Ev (d + 1 + 1) 141 74 [some (.ref 50), some (.int (nI n)), some (.int (nI L)), some (.int (nI e)), some (.int (nI j - 1)), l5, l6] [] τ Q = Q (some (.int (nI (edN t g n L j e)))) τ := by
    intro j
    induction j with
    | zero =>
      intro e l5 l6 _ _
      have hlt : (nI 0 - 1 < 0) = True := eq_true (by decide)
      rw [e141_74]
      simp only [e141_76, e141_79, e141_80, e141_82, e141_85, e141_88, e141_89, e141_91, e141_92, e141_94, e141_96, e141_97, e141_100, e141_103, e141_104, e141_107, e141_109, e141_110, e141_112, e141_115, e141_116, e141_118, e141_121, e141_124, e141_125, e141_126, e141_129, e141_130, e141_131, e141_133, e141_134, e141_135, e141_136, e141_138, e141_141, e141_142, e141_144, e141_146, e141_149, e141_152, e141_153, e141_156, e141_157, e141_158, e141_160, e141_161, e141_162, e141_163, e141_165, e141_168, e141_171, e141_173, e141_174, e141_177, e141_180, e141_181, true_or, or_true, true_and, and_true, Option.toList, List.cons_append, List.nil_append, if_true, if_false, reduceIte, hlt]
      rfl
    | succ j ih =>
      intro e l5 l6 hj he
      have hpos : (nI j < 0) = False := eq_false (nI_pos (by omega))
      rw [e141_74]
      simp only [edN]
      cases hbj : L.testBit j
      · simp only [e141_76, e141_79, e141_80, e141_82, e141_85, e141_174, e141_177, true_or, or_true, true_and, and_true, Option.toList, List.cons_append, List.nil_append, if_true, if_false, reduceIte, dn_s, hpos, c113 (s := L) (k := j) (by omega) (by omega), hbj, bI_0, dn_m, Bool.false_eq_true]
        exact ih e _ _ (by omega) he
      · simp only [e141_76, e141_79, e141_80, e141_82, e141_85, e141_88, e141_89, e141_91, e141_92, true_or, or_true, true_and, and_true, Option.toList, List.cons_append, List.nil_append, if_true, if_false, reduceIte, dn_s, hpos, c113 (s := L) (k := j) (by omega) (by omega), hbj, bI_0, Bool.true_eq_false]
        have inner : ∀ (m i : Nat), i + m = tS t → Ev (d + 1 + 1) 141 94 [some (.ref 50), some (.int (nI n)), some (.int (nI L)), some (.int (nI e)), some (.int (nI j)), some (.int (nI (chc t g n j i e))), some (.int (nI i))] [] τ Q = Ev (d + 1 + 1) 141 171 [some (.ref 50), some (.int (nI n)), some (.int (nI L)), some (.int (nI e)), some (.int (nI j)), some (.int (nI (chc t g n j (tS t) e))), some (.int (nI (tS t)))] [] τ Q := by
          intro m
          induction m with
          | zero =>
            intro i hi
            have hi2 : i = tS t := by omega
            subst hi2
            rw [e141_94]
            simp only [e141_96, e141_97, e141_100, true_or, or_true, true_and, and_true, Option.toList, List.cons_append, List.nil_append, if_true, if_false, reduceIte, sk50, hmτ.2.1, hge]
          | succ m ihm =>
            intro i hi
            have his : i < tS t := by omega
            have hge2 : (nI (tS t) ≤ nI i) = False := eq_false (nI_ge his (by omega))
            have ih' := ihm (i + 1) (by omega)
            rw [chc_s] at ih'
            have hc := chc_lt (t := t) (g := g) (n := n) (p := j) i e he (fun s hs => hg2 s (by omega))
            have hwc := wo_le ht j (chc t g n j i e)
            generalize chc t g n j i e = a at ih' hc hwc ⊢
            have hw := (ht.2.2 i his).1
            have ew : (nI (tw t i) = nI j) = (tw t i = j) := propext (nI_eq (by omega) (by omega))
            rw [e141_94]
            by_cases hwj : tw t i = j
            · cases hbn : n.testBit i
              · have hx : n ||| 2 ^ i < 256 := Nat.lt_of_lt_of_le (or_lt hn his) h256
                have hgi2 := hg2 i his
                have hwg := wo_le ht j (g i)
                by_cases hlt : wo t j a < wo t j (g i)
                · rw [if_pos ⟨hwj, hbn, hlt⟩] at ih'
                  have hle : (nI (wo t j (g i)) ≤ nI (wo t j a)) = False := eq_false (nI_ge hlt (by omega))
                  simp only [e141_96, e141_97, e141_100, e141_103, e141_104, e141_107, e141_109, e141_110, e141_112, e141_115, e141_116, e141_118, e141_121, e141_124, e141_125, e141_126, e141_129, e141_130, e141_131, e141_133, e141_134, e141_135, e141_136, e141_138, e141_141, e141_142, e141_144, e141_146, e141_149, e141_152, e141_153, e141_156, e141_157, e141_158, e141_160, e141_161, e141_162, e141_163, e141_165, e141_168, true_or, or_true, true_and, and_true, Option.toList, List.cons_append, List.nil_append, if_true, if_false, reduceIte, sk50, sr50_9, sr50_35, sk53, sn53, sk69, sn69, hmτ.2.1, hge2, in_eq (j := i) (n := 8) (by omega) (by decide), nI_clamp (n := i) (by omega), (hmτ.2.2 i his).1, ew, hwj, c113 (s := n) (k := i) (by omega) (by omega), hbn, bI_0, nI_set (a := n) (k := i) (by omega) (by omega), in_eq (j := n ||| 2 ^ i) (n := 256) hx (by decide), nI_clamp (n := n ||| 2 ^ i) (by omega), t69 i his hbn, c115' (g i) j hgi2 (by omega), c115' a j hc (by omega), woE (g i) j (by omega), woE a j (by omega), hle, nI_1]
                  exact ih'
                · rw [if_neg (fun z => hlt z.2.2)] at ih'
                  have hle : (nI (wo t j (g i)) ≤ nI (wo t j a)) = True := eq_true (nI_le (by omega) (by omega))
                  simp only [e141_96, e141_97, e141_100, e141_103, e141_104, e141_107, e141_109, e141_110, e141_112, e141_115, e141_116, e141_118, e141_121, e141_124, e141_125, e141_126, e141_129, e141_130, e141_131, e141_133, e141_134, e141_135, e141_136, e141_138, e141_141, e141_142, e141_144, e141_146, e141_149, e141_152, e141_153, e141_156, e141_157, e141_158, e141_160, e141_161, e141_162, e141_163, e141_165, e141_168, true_or, or_true, true_and, and_true, Option.toList, List.cons_append, List.nil_append, if_true, if_false, reduceIte, sk50, sr50_9, sr50_35, sk53, sn53, sk69, sn69, hmτ.2.1, hge2, in_eq (j := i) (n := 8) (by omega) (by decide), nI_clamp (n := i) (by omega), (hmτ.2.2 i his).1, ew, hwj, c113 (s := n) (k := i) (by omega) (by omega), hbn, bI_0, nI_set (a := n) (k := i) (by omega) (by omega), in_eq (j := n ||| 2 ^ i) (n := 256) hx (by decide), nI_clamp (n := n ||| 2 ^ i) (by omega), t69 i his hbn, c115' (g i) j hgi2 (by omega), c115' a j hc (by omega), woE (g i) j (by omega), woE a j (by omega), hle, nI_1]
                  exact ih'
              · rw [if_neg (fun z => by rw [hbn] at z; exact absurd z.2.1 (by decide))] at ih'
                simp only [e141_96, e141_97, e141_100, e141_103, e141_104, e141_107, e141_109, e141_110, e141_112, e141_115, e141_116, e141_118, e141_121, e141_124, e141_125, e141_126, e141_129, e141_130, e141_131, e141_133, e141_134, e141_135, e141_136, e141_138, e141_141, e141_142, e141_144, e141_146, e141_149, e141_152, e141_153, e141_156, e141_157, e141_158, e141_160, e141_161, e141_162, e141_163, e141_165, e141_168, true_or, or_true, true_and, and_true, Option.toList, List.cons_append, List.nil_append, if_true, if_false, reduceIte, sk50, sr50_9, sk53, sn53, hmτ.2.1, hge2, in_eq (j := i) (n := 8) (by omega) (by decide), nI_clamp (n := i) (by omega), (hmτ.2.2 i his).1, ew, hwj, c113 (s := n) (k := i) (by omega) (by omega), hbn, bI_0, Bool.true_eq_false, nI_1]
                exact ih'
            · rw [if_neg (fun z => hwj z.1)] at ih'
              simp only [e141_96, e141_97, e141_100, e141_103, e141_104, e141_107, e141_109, e141_110, e141_112, e141_115, e141_116, e141_118, e141_121, e141_124, e141_125, e141_126, e141_129, e141_130, e141_131, e141_133, e141_134, e141_135, e141_136, e141_138, e141_141, e141_142, e141_144, e141_146, e141_149, e141_152, e141_153, e141_156, e141_157, e141_158, e141_160, e141_161, e141_162, e141_163, e141_165, e141_168, true_or, or_true, true_and, and_true, Option.toList, List.cons_append, List.nil_append, if_true, if_false, reduceIte, sk50, sr50_9, sk53, sn53, hmτ.2.1, hge2, in_eq (j := i) (n := 8) (by omega) (by decide), nI_clamp (n := i) (by omega), (hmτ.2.2 i his).1, ew, eq_false hwj, nI_1]
              exact ih'
        have h0 := inner (tS t) 0 (by omega)
        rw [show (some (Value.int (0 : Int32))) = some (.int (nI 0)) from rfl]
        refine Eq.trans h0 ?_
        simp only [e141_171, e141_173, e141_174, e141_177, true_or, or_true, true_and, and_true, Option.toList, List.cons_append, List.nil_append, if_true, if_false, reduceIte, dn_m]
        exact ih _ _ _ (by omega) (chc_lt _ _ he hg2)
  rw [key (tP t) n none none (Nat.le_refl _) (by omega)]
  exact hQ τ hF
theorem sub_or {n s : Nat} (h : n &&& sd = sd) : (n ||| 2 ^ s) &&& sd = sd := by
  apply bits_ext
  intro i
  have := congrArg (fun z => z.testBit i) h
  simp only [Nat.testBit_and] at this
  rw [Nat.testBit_and, bit_set]
  cases h1 : sd.testBit i
  · simp
  · rw [h1] at this
    rw [Bool.and_true] at this
    rw [this]; rfl
end Each2
set_option maxHeartbeats 8000000 in
theorem op_each {B : Nat} {σ : ab_St} (hB : B < 90000) (hI : Inv B σ) : op2 B σ 79 [some (.ref 0)] 140 [some (.ref 50), none] := by
  obtain ⟨tn, tx, t, f, th, sd, la, lw, h, -⟩ := id hI
  obtain ⟨h1, h2, h3, h4, h5, h6, h7⟩ := id h
  obtain ⟨n0, n1, n2, n3, n4, n5, n6, n7, n8⟩ := h6
  have hf : ∀ p, p < tP t → f p ≤ 90000 := fun p hp => by have := h5.2.2.2.2 p hp; omega
  have h8 := h1.2.1
  have h256 := two_le8 _ h8
  have hsd := h5.2.1
  refine op2_q (.int (nI (EN t f th sd sd))) hI ?_
  simp only [e79_0, e79_1, e79_4, e79_5, e79_8, e79_9, e79_12, true_or, or_true, true_and, and_true, Option.toList, List.cons_append, List.nil_append, if_true, if_false, reduceIte, sk0, sk40, sr0_8, sr0_2, sr0_3]
  refine c80 (d := 3) h1 h3 (fun p hp => (n0 p hp).1) n1 h5.1 n3 h5.2.1 hf (fun τ0 cτ0 => ?_)
  simp only [e79_15, true_or, or_true, true_and, and_true, Option.toList, List.cons_append, List.nil_append, if_true, if_false, reduceIte]
  have sτ0 : sam σ τ0 := sam_ch cτ0 (by decide)
  refine ⟨sτ0, ?_⟩
  have sm2 : sam σ (ab_wI τ0 50 (upd (τ0.1 50) 0 0)) := sam_tr sτ0 (sam_50 (by decide))
  have g := bas_sam (Nat.le_refl B) sm2 h
  obtain ⟨-, -, -, g4, -, g6, -⟩ := g
  have c0 : chM τ0 (ab_wI τ0 50 (upd (τ0.1 50) 0 0)) := thr_chM τ0
  simp only [e140_0, e140_1, e140_2, e140_5, e140_6, e140_7, e140_10, e140_11, e140_12, e140_13, true_or, or_true, true_and, and_true, Option.toList, List.cons_append, List.nil_append, if_true, if_false, reduceIte, sk50, g4.2.1, nI_shl (k := tS t) (by omega)]
  generalize ab_wI τ0 50 (upd (τ0.1 50) 0 0) = τ1 at g4 g6 c0
  have key : ∀ (m : Nat) (τ : ab_St), m ≤ 2 ^ tS t → chM τ1 τ → (∀ n, m ≤ n → n < 2 ^ tS t → n &&& sd = sd → τ.1 69 n = nI (EN t f th sd n)) → Ev (7 + 1) 140 14 [some (.ref 50), some (.int (nI m - 1))] [] τ (fun r' σ2 => r' = some (.int (nI (EN t f th sd sd))) ∧ sam τ0 σ2) := by
    intro m
    induction m with
    | zero =>
      intro τ _ hc hg
      have hlt : (nI 0 - 1 < 0) = True := eq_true (by decide)
      have v13 : τ.1 50 13 = nI sd := by rw [hc.2 13 (by decide)]; exact g6.2.2.2.2.1
      rw [e140_14]
      simp only [e140_15, e140_18, e140_19, e140_20, e140_23, e140_24, e140_25, e140_28, e140_31, e140_32, e140_35, e140_36, e140_37, e140_38, e140_41, e140_42, e140_45, e140_48, e140_49, e140_52, e140_53, e140_56, e140_57, true_or, or_true, true_and, and_true, Option.toList, List.cons_append, List.nil_append, if_true, if_false, reduceIte, hlt, sk50, sr50_35, sk69, sn69, v13, in_eq (j := sd) (n := 256) (by omega) (by decide), nI_clamp (n := sd) (by omega), hg sd (by omega) hsd (Nat.and_self sd)]
      exact chM_sam (chM_tr c0 hc)
    | succ m ih =>
      intro τ hm hc hg
      have hpos : (nI m < 0) = False := eq_false (nI_pos (by omega))
      have v13 : τ.1 50 13 = nI sd := by rw [hc.2 13 (by decide)]; exact g6.2.2.2.2.1
      have hal : m &&& sd < 2 ^ 31 := Nat.lt_of_le_of_lt Nat.and_le_left (by omega)
      have ea : (nI (m &&& sd) = nI sd) = (m &&& sd = sd) := propext (nI_eq hal (by omega))
      rw [e140_14]
      by_cases hsub : m &&& sd = sd
      · have hmτ : mdV τ t := mdV_ag g4 (fun c hcc => hc.1 c (by revert c; decide)) (fun k hk => hc.2 k (by revert k; decide))
        simp only [e140_15, e140_18, e140_19, e140_20, e140_23, e140_24, e140_25, e140_28, e140_31, e140_32, e140_35, e140_36, e140_37, e140_38, true_or, or_true, true_and, and_true, Option.toList, List.cons_append, List.nil_append, if_true, if_false, reduceIte, dn_s, hpos, sk50, sr50_35, v13, nI_and (a := m) (b := sd) (by omega) (by omega), ea, eq_true hsub]
        refine c141 (d := 5) (f := f) (th := th) (sd := sd) (g := fun s => EN t f th sd (m ||| 2 ^ s)) h1 hmτ (fun p hp => by rw [hc.1 52 (by decide)]; exact (g6.1 p hp).2) (by rw [hc.2 7 (by decide)]; exact g6.2.2.1) h5.1 v13 hsd (by omega) hf (fun s hs hb => hg _ (by have := or_gt hb; omega) (or_lt (by omega) hs) (sub_or hsub)) (fun s hs => Nat.lt_of_lt_of_le (EN_lt (or_lt (by omega) hs)) h256) (fun υ hF => ?_)
        have hst := edN_stop (t := t) (g := fun s => EN t f th sd (m ||| 2 ^ s)) (n := m) (lst_ltP (g := fwd t f sd m) h1.1 h5.1) (6 - tP t) m
        rw [show tP t + (6 - tP t) = 6 by have := h1.1; omega, ← EN_eq] at hst
        rw [← hst]
        have cυ := FRM_chM hF
        simp only [e140_41, e140_42, e140_45, true_or, or_true, true_and, and_true, Option.toList, List.cons_append, List.nil_append, if_true, if_false, reduceIte, sk69, sn69, in_eq (j := m) (n := 256) (by omega) (by decide), nI_clamp (n := m) (by omega), dn_m]
        refine ih _ (by omega) (chM_w (chM_tr hc cυ) (by decide) (by decide)) (fun n hn hn2 hns => ?_)
        rw [wI_eq]
        by_cases e : n = m
        · rw [e, upd_eq]
        · rw [upd_ne _ _ e, hF.1 69 (by decide)]; exact hg n (by omega) hn2 hns
      · simp only [e140_15, e140_18, e140_19, e140_20, e140_23, e140_24, e140_25, e140_28, e140_31, e140_32, e140_35, e140_36, e140_37, e140_38, e140_41, e140_42, e140_45, true_or, or_true, true_and, and_true, Option.toList, List.cons_append, List.nil_append, if_true, if_false, reduceIte, dn_s, hpos, sk50, v13, nI_and (a := m) (b := sd) (by omega) (by omega), ea, eq_false hsub, dn_m]
        refine ih τ (by omega) hc (fun n hn hn2 hns => ?_)
        by_cases e : n = m
        · rw [e] at hns; exact absurd hns hsub
        · exact hg n (by omega) hn2 hns
  exact key (2 ^ tS t) τ1 (Nat.le_refl _) (chM_rf _) (fun n hn hn2 => by omega)
