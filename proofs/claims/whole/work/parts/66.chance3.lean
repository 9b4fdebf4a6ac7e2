/-! CHANCE, WHOLE -/
def bM (m : Nat) (j : Nat) : Nat := if m.testBit j = true then 1 else 2
def wM (x m : Nat) (N : Nat) : Nat := itn (fun j a => a * (if m.testBit j = true then x else 10 - x)) N 1
theorem wM_s (x m N : Nat) : wM x m (N + 1) = wM x m N * (if m.testBit N = true then x else 10 - x) := rfl
def Gc (th : Nat) (f : Nat → Nat) (p N x m : Nat) : Nat := if (lst th (pf th f (bM m) N)).testBit p = true then wM x m N else 0
theorem sN_c {F G : Nat → Nat} : ∀ n, (∀ i, i < n → F i = G i) → sN F n = sN G n := by
  intro n
  induction n with
  | zero => intro _; rfl
  | succ n ih => intro h; rw [sN_s, sN_s, ih (fun i hi => h i (by omega)), h n (by omega)]
theorem Gc_Fc {th : Nat} {f : Nat → Nat} {p N x m : Nat} (hm : m < 2 ^ N) : Gc th f p N x m = Fc th f p N x (2 ^ N - 1 - m) := by
  have hb : ∀ j, j < N → (2 ^ N - 1 - m).testBit j = !m.testBit j := fun j hj => by
    rw [show 2 ^ N - 1 - m = 2 ^ N - (m + 1) by omega, Nat.testBit_two_pow_sub_succ hm, decide_eq_true hj, Bool.true_and]
  have e1 : pf th f (bM m) N = pf th f (bP (2 ^ N - 1 - m)) N := pf_c N (fun j hj => by
    unfold bM bP
    rw [hb j hj]
    cases m.testBit j <;> rfl)
  have e2 : wM x m N = wt x (2 ^ N - 1 - m) N := itn_c 1 N (fun j a hj => by
    rw [hb j hj]
    cases m.testBit j <;> rfl)
  unfold Gc Fc
  rw [e1, e2]
theorem sum_GF {th : Nat} {f : Nat → Nat} {p N x : Nat} : sN (Gc th f p N x) (2 ^ N) = sN (Fc th f p N x) (2 ^ N) := by
  rw [← sN_rev (Fc th f p N x) (2 ^ N)]
  exact sN_c _ (fun i hi => Gc_Fc hi)
theorem in06 (x : Int32) : decide ((0 : Int64) ≤ x.toInt64 ∧ x.toInt64 ≤ 6) = inR x 7 := inL (x := x) (n := 7) (by decide)
theorem in10 (x : Int32) : decide ((0 : Int64) ≤ x.toInt64 ∧ x.toInt64 ≤ 10) = inR x 11 := inL (x := x) (n := 11) (by decide)
theorem ti6 : (6 : Int32).toInt = 6 := rfl
theorem ti10 : (10 : Int32).toInt = 10 := rfl
theorem bgn_FRM (σ : ab_St) (P : Nat) : FRM σ (bgn σ P) := by
  refine ⟨fun c hc => ?_, fun k hk => ?_⟩
  · simp only [List.mem_cons, List.not_mem_nil, or_false, not_or] at hc
    rw [bgn_get, if_neg hc.1, if_neg hc.2.1]
  · simp only [List.mem_cons, List.not_mem_nil, or_false, not_or] at hk
    rw [bgn_get, if_pos rfl, upd_ne _ _ hk.2.1, upd_ne _ _ hk.1]
theorem FRM_tr {σ τ υ : ab_St} (h : FRM σ τ) (h2 : FRM τ υ) : FRM σ υ := ⟨fun c hc => (h2.1 c hc).trans (h.1 c hc), fun k hk => (h2.2 k hk).trans (h.2 k hk)⟩
set_option maxHeartbeats 8000000 in
/-- the model's chance, from its first loop on -/
theorem c144b {N x p P : Nat} {v : Int32} {f : Nat → Nat} {th : Nat} {σ : ab_St} {Q : Option Value → ab_St → Prop} (hN : N ≤ 6) (hx : x ≤ 10) (hp : p < P) (hP : P ≤ 6) (v5 : σ.1 50 5 = nI P) (v7 : σ.1 50 7 = nI th) (hth : th < 2 ^ P) (v52 : ∀ p, p < P → σ.1 52 p = nI (f p)) (hf : ∀ p, p < P → f p ≤ 90000)
    (hQ : ∀ τ, FRM σ τ → Q (some (.long (if v = 0 then lN (cn N (sN (Fc th f p N x) (2 ^ N), 10 ^ N)).2 else lN (cn N (sN (Fc th f p N x) (2 ^ N), 10 ^ N)).1))) τ) :
    Ev 8 144 54 [some (.ref 50), some (.int (nI p)), some (.int (nI N)), some (.int (nI x)), some (.int v), some (.long 0), none, some (.long 1), none, some (.int 0), none, none, none] [] σ Q := by
  have h64 := two_le6 hN
  have hth64 : th < 64 := Nat.lt_of_lt_of_le hth (two_le _ hP)
  have l1 := ev_up (fun i => Ev 8 144 54 [some (.ref 50), some (.int (nI p)), some (.int (nI N)), some (.int (nI x)), some (.int v), some (.long 0), none, some (.long (lN (10 ^ i))), none, some (.int (nI i)), none, none, none] [] σ Q) N (fun i hi => by
    rw [e144_54]
    have hge : (nI N ≤ nI i) = False := eq_false (nI_ge hi (by omega))
    have e10 : lN (10 ^ i) * 10 = lN (10 ^ (i + 1)) := by rw [Nat.pow_succ]; exact lN_mul (10 ^ i) 10
    simp only [e144_56, e144_57, e144_60, e144_62, e144_65, e144_66, e144_68, e144_71, true_or, or_true, true_and, and_true, Option.toList, List.cons_append, List.nil_append, if_true, if_false, reduceIte, hge, e10, nI_1])
  rw [show (some (Value.int (0 : Int32))) = some (.int (nI 0)) from rfl, show (some (Value.long (1 : Int64))) = some (.long (lN (10 ^ 0))) from rfl]
  refine l1.mpr ?_
  have hgeN : (nI N ≤ nI N) = True := eq_true (nI_le (Nat.le_refl _) (by omega))
  rw [e144_54]
  simp only [e144_56, e144_57, e144_74, e144_75, true_or, or_true, true_and, and_true, Option.toList, List.cons_append, List.nil_append, if_true, if_false, reduceIte, hgeN]
  have hpl := p10_le (j := N) (by omega)
  have hpp := p10_pos N
  have key : ∀ (k m : Nat) (τ : ab_St) (l10 l11 l12 : Option Value), m + k = 2 ^ N → FRM σ τ → Ev (7 + 1) 144 77 [some (.ref 50), some (.int (nI p)), some (.int (nI N)), some (.int (nI x)), some (.int v), some (.long (lN (sN (Gc th f p N x) m))), none, some (.long (lN (10 ^ N))), none, some (.int (nI m)), l10, l11, l12] [] τ Q := by
    intro k
    induction k with
    | zero =>
      intro m τ l10 l11 l12 hm hF
      have hm2 : m = 2 ^ N := by omega
      subst hm2
      have hge : (nI (2 ^ N) ≤ nI (2 ^ N)) = True := eq_true (nI_le (Nat.le_refl _) (by omega))
      have hU := sFc_le (th := th) (f := f) (p := p) (N := N) (x := x) (k := 2 ^ N) hN hx h64
      have hfin := hQ τ hF
      rw [cn_gcd] at hfin
      rw [e144_77, sum_GF]
      generalize sN (Fc th f p N x) (2 ^ N) = U at hU hfin
      have hgp : 0 < Nat.gcd U (10 ^ N) := Nat.gcd_pos_of_pos_right U hpp
      have hgl : Nat.gcd U (10 ^ N) ≤ 10 ^ N := Nat.le_of_dvd hpp (Nat.gcd_dvd_right _ _)
      have zg : (¬ lN (Nat.gcd U (10 ^ N)) = 0) = True := eq_true (fun e => by have := (pk_lEQ (a := Nat.gcd U (10 ^ N)) (b := 0) (by omega) (by decide)).mp e; omega)
      have c146' := fun l0 l1 l2 l3 Q => c146 (d := 7) (l0 := l0) (l1 := l1) (l2 := l2) (l3 := l3) (σ := τ) (Q := Q) (10 ^ N) U none none (by omega) (by omega)
      simp only [e144_79, e144_80, e144_81, e144_82, e144_179, e144_181, e144_183, e146_0, e146_1, e146_3, e146_4, true_or, or_true, true_and, and_true, Option.toList, List.cons_append, List.nil_append, if_true, if_false, reduceIte, nI_shl (k := N) (by omega), hge, c146']
      by_cases hv : v = 0
      · rw [if_pos hv] at hfin
        simp only [e144_186, e144_188, e144_190, e144_193, e144_195, e144_197, e144_198, e144_201, e144_203, e144_205, e144_206, true_or, or_true, true_and, and_true, Option.toList, List.cons_append, List.nil_append, if_true, if_false, reduceIte, eq_true hv, zg, pk_lDiv (a := 10 ^ N) (b := Nat.gcd U (10 ^ N)) (by omega) hgp (by omega)]
        exact hfin
      · rw [if_neg hv] at hfin
        simp only [e144_186, e144_188, e144_190, e144_193, e144_195, e144_197, e144_198, e144_201, e144_203, e144_205, e144_206, true_or, or_true, true_and, and_true, Option.toList, List.cons_append, List.nil_append, if_true, if_false, reduceIte, eq_false hv, zg, pk_lDiv (a := U) (b := Nat.gcd U (10 ^ N)) (by omega) hgp (by omega)]
        exact hfin
    | succ k ih =>
      intro m τ l10 l11 l12 hm hF
      have hm2 : m < 2 ^ N := by omega
      have hge : (nI (2 ^ N) ≤ nI m) = False := eq_false (nI_ge hm2 (by omega))
      have q5 : τ.1 50 5 = nI P := by rw [hF.2 5 (by decide)]; exact v5
      rw [e144_77]
      simp only [e144_79, e144_80, e144_81, e144_82, e144_85, e144_86, e144_88, e144_89, e144_92, e144_93, true_or, or_true, true_and, and_true, Option.toList, List.cons_append, List.nil_append, if_true, if_false, reduceIte, nI_shl (k := N) (by omega), hge, sk50, c112 (d := 7) q5 hP]
      have F1 : FRM σ (bgn τ P) := FRM_tr hF (bgn_FRM τ P)
      have b65 : ∀ q, q < P → (bgn τ P).1 65 q = nI (pf th f (bM m) 0 q) := fun q hq => by rw [bgn_w hq, hF.1 52 (by decide)]; exact v52 q hq
      generalize bgn τ P = τ1 at F1 b65
      have bM_le : ∀ j, bM m j ≤ 2 := fun j => by unfold bM; split <;> omega
      have hlt := pf_le (th := th) (f := f) (b := bM m) bM_le
      have ml : ∀ (υ : ab_St) (j : Nat), FRM σ υ → j ≤ N → (∀ q, q < P → υ.1 65 q = nI (pf th f (bM m) j q)) → mlV υ P (pf th f (bM m) j) th := fun υ j hFυ hj h65 => ⟨by rw [hFυ.2 5 (by decide)]; exact v5, fun q hq => h65 q (bit_lt hth hq), by rw [hFυ.2 7 (by decide)]; exact v7, hth, hP, fun q hq => by
        have := hlt j q
        have := hf q (bit_lt hth hq)
        omega⟩
      have ex : (10 : Int32) - nI x = nI (10 - x) := pk_sub (a := 10) (b := x) hx
      have inner : ∀ (k j : Nat) (υ : ab_St), j + k = N → FRM σ υ → (∀ q, q < P → υ.1 65 q = nI (pf th f (bM m) j q)) → Ev (7 + 1) 144 95 [some (.ref 50), some (.int (nI p)), some (.int (nI N)), some (.int (nI x)), some (.int v), some (.long (lN (sN (Gc th f p N x) m))), none, some (.long (lN (10 ^ N))), none, some (.int (nI m)), some (.long (lN (wM x m j))), none, some (.int (nI j))] [] υ Q := by
        intro k'
        induction k' with
        | zero =>
          intro j υ hj hFυ h65
          have hjN : j = N := by omega
          subst hjN
          have hge2 : (nI j ≤ nI j) = True := eq_true (nI_le (Nat.le_refl _) (by omega))
          have hml := ml υ j hFυ (Nat.le_refl _) h65
          have hL := lst_lt th (pf th f (bM m) j)
          have hGs : sN (Gc th f p j x) (m + 1) = sN (Gc th f p j x) m + Gc th f p j x m := rfl
          have hGm : Gc th f p j x m = if (lst th (pf th f (bM m) j)).testBit p = true then wM x m j else 0 := rfl
          have nx := ih (m + 1) υ (some (.long (lN (wM x m j)))) none (some (.int (nI j))) (by omega) hFυ
          rw [hGs, hGm] at nx
          rw [e144_95]
          cases hb : (lst th (pf th f (bM m) j)).testBit p
          · rw [hb, if_neg (by decide), Nat.add_zero] at nx
            simp only [e144_97, e144_98, e144_151, e144_153, e144_154, e144_157, e144_158, e144_161, e144_164, e144_166, e144_169, e144_170, e144_171, e144_173, e144_176, true_or, or_true, true_and, and_true, Option.toList, List.cons_append, List.nil_append, if_true, if_false, reduceIte, hge2, sk50, c114 (d := 6) hml, c113 (s := lst th (pf th f (bM m) j)) (k := p) (by omega) (by omega), hb, bI_0, Int64.add_zero, nI_1]
            exact nx
          · rw [hb, if_pos rfl] at nx
            simp only [e144_97, e144_98, e144_151, e144_153, e144_154, e144_157, e144_158, e144_161, e144_164, e144_166, e144_169, e144_170, e144_171, e144_173, e144_176, true_or, or_true, true_and, and_true, Option.toList, List.cons_append, List.nil_append, if_true, if_false, reduceIte, hge2, sk50, c114 (d := 6) hml, c113 (s := lst th (pf th f (bM m) j)) (k := p) (by omega) (by omega), hb, bI_0, Bool.true_eq_false, lN_add, nI_1]
            exact nx
        | succ k' ihi =>
          intro j υ hj hFυ h65
          have hge2 : (nI N ≤ nI j) = False := eq_false (nI_ge (by omega) (by omega))
          have hml := ml υ j hFυ (by omega) h65
          have nx : ∀ υ', FRM σ υ' → (∀ q, q < P → υ'.1 65 q = nI (adv th (pf th f (bM m) j) (bM m j) q)) → Ev (7 + 1) 144 95 [some (.ref 50), some (.int (nI p)), some (.int (nI N)), some (.int (nI x)), some (.int v), some (.long (lN (sN (Gc th f p N x) m))), none, some (.long (lN (10 ^ N))), none, some (.int (nI m)), some (.long (lN (wM x m (j + 1)))), none, some (.int (nI (j + 1)))] [] υ' Q := fun υ' h1 h2 => ihi (j + 1) υ' (by omega) h1 h2
          rw [wM_s] at nx
          have frm : ∀ υ' : ab_St, (∀ k, k ≠ 65 → υ'.1 k = υ.1 k) → FRM σ υ' := fun υ' h => ⟨fun c hc => by
            simp only [List.mem_cons, List.not_mem_nil, or_false, not_or] at hc
            rw [h c hc.2.1]
            exact hFυ.1 c (by simp only [List.mem_cons, List.not_mem_nil, or_false, not_or]; exact hc), fun k hk => by rw [h 50 (by decide)]; exact hFυ.2 k hk⟩
          rw [e144_95]
          cases hb : m.testBit j
          · have hbm : bM m j = 2 := by unfold bM; rw [hb, if_neg (by decide)]
            rw [hb, if_neg (by decide), hbm] at nx
            simp only [e144_97, e144_98, e144_101, e144_103, e144_105, e144_107, e144_110, e144_113, e144_114, e144_115, e144_118, e144_120, e144_121, e144_122, e144_123, e144_124, e144_126, e144_127, e144_129, e144_131, e144_134, e144_137, e144_138, e144_141, e144_142, true_or, or_true, true_and, and_true, Option.toList, List.cons_append, List.nil_append, if_true, if_false, reduceIte, hge2, c113 (s := m) (k := j) (by omega) (by omega), hb, bI_0, ex, nI_l (n := 10 - x) (by omega), lN_mul, sk50]
            refine c145 (d := 5) (c := 2) hml h65 (fun υ' h1 h2 => ?_)
            simp only [e144_145, e144_148, true_or, or_true, true_and, and_true, Option.toList, List.cons_append, List.nil_append, if_true, if_false, reduceIte, nI_1]
            exact nx υ' (frm υ' h1) h2
          · have hbm : bM m j = 1 := by unfold bM; rw [hb, if_pos rfl]
            rw [hb, if_pos rfl, hbm] at nx
            simp only [e144_97, e144_98, e144_101, e144_103, e144_105, e144_107, e144_110, e144_113, e144_114, e144_115, e144_118, e144_120, e144_121, e144_122, e144_123, e144_124, e144_126, e144_127, e144_129, e144_131, e144_134, e144_137, e144_138, e144_141, e144_142, true_or, or_true, true_and, and_true, Option.toList, List.cons_append, List.nil_append, if_true, if_false, reduceIte, hge2, c113 (s := m) (k := j) (by omega) (by omega), hb, bI_0, Bool.true_eq_false, nI_l (n := x) (by omega), lN_mul, sk50]
            refine c145 (d := 5) (c := 1) hml h65 (fun υ' h1 h2 => ?_)
            simp only [e144_145, e144_148, true_or, or_true, true_and, and_true, Option.toList, List.cons_append, List.nil_append, if_true, if_false, reduceIte, nI_1]
            exact nx υ' (frm υ' h1) h2
      exact inner N 0 τ1 (by omega) F1 b65
  exact key (2 ^ N) 0 σ none none none (by omega) (FRM_rf σ)
set_option maxHeartbeats 8000000 in
theorem op_chance {B : Nat} {σ : ab_St} {x y z v : Int32} (hB : B < 90000) (hI : Inv B σ) : op2 B σ 92 [some (.ref 0), some (.int x), some (.int y), some (.int z), some (.int v)] 144 [some (.ref 50), some (.int x), some (.int y), some (.int z), some (.int v), none, none, none, none, none, none, none, none] := by
  obtain ⟨tn, tx, t, f, th, sd, la, lw, h, -⟩ := id hI
  have hst := bas_stV hB h
  obtain ⟨h1, h2, h3, h4, h5, h6, h7⟩ := id h
  obtain ⟨n0, n1, n2, n3, n4, n5, n6, n7, n8⟩ := h6
  have s0 : sam σ (ab_wI σ 50 (upd (σ.1 50) 0 0)) := sam_50 (by decide)
  have hf : ∀ p, p < tP t → f p ≤ 90000 := fun p hp => by have := h5.2.2.2.2 p hp; omega
  have hP6 := h1.1
  have e5 : (ab_wI σ 50 (upd (σ.1 50) 0 0)).1 50 5 = nI (tP t) := by simp only [wI_get, upd_get, Nat.reduceEqDiff, reduceIte, if_true, if_false]; exact h4.1
  have c26' := fun Q => c26 (d := 7) (c := 11) (x := x) (σ := σ) (Q := Q) sk11 h3.1 h1.1
  have c117' := fun Q => c117 (d := 6) (x := x) (σ := ab_wI σ 50 (upd (σ.1 50) 0 0)) (Q := Q) e5 h1.1
  by_cases hx : inR x (tP t) = true
  · obtain ⟨p, hp, rfl⟩ := inR_of hx (by omega)
    by_cases hyz : inR y 7 = true ∧ inR z 11 = true
    · obtain ⟨hy, hz⟩ := hyz
      obtain ⟨N, hN, rfl⟩ := inR_of hy (by decide)
      obtain ⟨w, hw, rfl⟩ := inR_of hz (by decide)
      have y1 : (nI N < 0) = False := eq_false (nI_pos (by omega))
      have y2 : ((6 : Int32) < nI N) = False := eq_false (fun h => by
        have := Int32.lt_iff_toInt_lt.mp h
        rw [nI_toInt (by omega), ti6] at this
        omega)
      have z1 : (nI w < 0) = False := eq_false (nI_pos (by omega))
      have z2 : (nI w ≤ (10 : Int32)) = True := eq_true (nI_le (a := w) (b := 10) (by omega) (by decide))
      refine op2_q (.long (if v = 0 then lN (cn N (sN (Fc th f p N w) (2 ^ N), 10 ^ N)).2 else lN (cn N (sN (Fc th f p N w) (2 ^ N), 10 ^ N)).1)) hI ?_
      simp only [e92_0, e92_1, e92_4, e92_5, e92_8, e92_11, e92_14, e92_15, e92_16, e92_19, e92_20, e92_22, e92_25, e92_26, e92_29, e92_30, e92_32, e92_35, e92_38, e92_39, e92_40, e92_43, e92_44, e92_47, e92_48, e92_49, e92_50, true_or, or_true, true_and, and_true, Option.toList, List.cons_append, List.nil_append, if_true, if_false, reduceIte, sk0, sk11, sk46, sr0_2, sr0_3, sr0_9, c26', hx, bI_0, Bool.true_eq_false, y1, y2, z1, z2]
      refine c93 (d := 4) hst (fun q hq => by have := hf q (bit_lt h5.1 hq); omega) (by omega) (by omega) (by omega) (fun τ cτ u2 u3 => ?_)
      have sτ : sam σ τ := ⟨fun c hc => cτ c (by revert c; decide), fun k _ => by rw [cτ 50 (by decide)], by rw [cτ 9 (by decide)], by rw [cτ 9 (by decide)]⟩
      have mod : Ev 8 144 0 [some (.ref 50), some (.int (nI p)), some (.int (nI N)), some (.int (nI w)), some (.int v), none, none, none, none, none, none, none, none] [] τ (fun r' σ2 => r' = some (.long (if v = 0 then lN (cn N (sN (Fc th f p N w) (2 ^ N), 10 ^ N)).2 else lN (cn N (sN (Fc th f p N w) (2 ^ N), 10 ^ N)).1)) ∧ sam τ σ2) := by
        have q5 : (ab_wI τ 50 (upd (τ.1 50) 0 0)).1 50 5 = nI (tP t) := by simp only [wI_get, upd_get, Nat.reduceEqDiff, reduceIte, if_true, if_false]; rw [cτ 50 (by decide)]; exact h4.1
        have q7 : (ab_wI τ 50 (upd (τ.1 50) 0 0)).1 50 7 = nI th := by simp only [wI_get, upd_get, Nat.reduceEqDiff, reduceIte, if_true, if_false]; rw [cτ 50 (by decide)]; exact n2
        have q52 : ∀ p, p < tP t → (ab_wI τ 50 (upd (τ.1 50) 0 0)).1 52 p = nI (f p) := fun p hp => by simp only [wI_get, upd_get, Nat.reduceEqDiff, reduceIte, if_true, if_false]; rw [cτ 52 (by decide)]; exact (n0 p hp).2
        have c117'' := fun Q => c117 (d := 6) (x := nI p) (σ := ab_wI τ 50 (upd (τ.1 50) 0 0)) (Q := Q) q5 h1.1
        simp only [e144_0, e144_1, e144_2, e144_5, e144_6, e144_7, e144_10, e144_13, e144_16, e144_17, e144_18, e144_19, e144_20, e144_23, e144_26, e144_29, e144_30, e144_31, e144_32, e144_35, e144_38, e144_41, e144_44, e144_45, e144_46, e144_48, e144_49, e144_51, e144_52, true_or, or_true, true_and, and_true, Option.toList, List.cons_append, List.nil_append, if_true, if_false, reduceIte, sk50, c117'', hx, Bool.not_true, bI_0, c101, in06, in10, hy, hz, Bool.true_eq_false]
        refine c144b (by omega) (by omega) hp hP6 q5 q7 h5.1 q52 hf (fun υ hF => ⟨rfl, sam_tr (sam_50 (by decide)) (chM_sam (FRM_chM hF))⟩)
      by_cases hv : v = 0
      · simp only [e92_53, e92_55, e92_58, e92_59, e92_62, e92_65, e92_68, e92_69, e92_72, e92_75, true_or, or_true, true_and, and_true, Option.toList, List.cons_append, List.nil_append, if_true, if_false, reduceIte, eq_true hv, sk0, sr0_9, sk46, u3]
        simp only [hv, if_true] at mod
        rw [hv]
        exact ⟨sτ, mod⟩
      · simp only [e92_53, e92_55, e92_58, e92_59, e92_62, e92_65, e92_68, e92_69, e92_72, e92_75, true_or, or_true, true_and, and_true, Option.toList, List.cons_append, List.nil_append, if_true, if_false, reduceIte, eq_false hv, sk0, sr0_9, sk46, u2]
        simp only [if_neg hv] at mod
        exact ⟨sτ, mod⟩
    · refine op2_q (.long (-2)) hI ?_
      have key : Ev 8 144 0 [some (.ref 50), some (.int (nI p)), some (.int y), some (.int z), some (.int v), none, none, none, none, none, none, none, none] [] σ (fun r σ2 => r = some (.long (-2)) ∧ sam σ σ2) := by
        cases hy : inR y 7
        · simp only [e144_0, e144_1, e144_2, e144_5, e144_6, e144_7, e144_10, e144_13, e144_16, e144_17, e144_18, e144_19, e144_20, e144_23, e144_26, e144_29, e144_30, e144_31, e144_32, e144_35, e144_38, e144_41, e144_44, true_or, or_true, true_and, and_true, Option.toList, List.cons_append, List.nil_append, if_true, if_false, reduceIte, sk50, c117', hx, Bool.not_true, bI_0, c101, in06, hy]
          exact s0
        · have hz : inR z 11 = false := by
            cases hz : inR z 11
            · rfl
            · exact absurd ⟨hy, hz⟩ hyz
          simp only [e144_0, e144_1, e144_2, e144_5, e144_6, e144_7, e144_10, e144_13, e144_16, e144_17, e144_18, e144_19, e144_20, e144_23, e144_26, e144_29, e144_30, e144_31, e144_32, e144_35, e144_38, e144_41, e144_44, true_or, or_true, true_and, and_true, Option.toList, List.cons_append, List.nil_append, if_true, if_false, reduceIte, sk50, c117', hx, Bool.not_true, bI_0, c101, in06, in10, hy, hz, Bool.true_eq_false]
          exact s0
      have hr : ¬ (0 ≤ y.toInt ∧ y.toInt ≤ 6 ∧ 0 ≤ z.toInt ∧ z.toInt ≤ 10) := fun r => hyz ⟨by unfold inR; exact decide_eq_true (by omega), by unfold inR; exact decide_eq_true (by omega)⟩
      have ey2 : ((6 : Int32) < y) = (6 < y.toInt) := propext (by rw [Int32.lt_iff_toInt_lt, ti6])
      by_cases a1 : y.toInt < 0
      · simp only [e92_0, e92_1, e92_4, e92_5, e92_8, e92_11, e92_14, e92_15, e92_16, e92_19, e92_20, e92_22, e92_25, e92_26, e92_29, e92_30, e92_32, e92_35, e92_38, true_or, or_true, true_and, and_true, Option.toList, List.cons_append, List.nil_append, if_true, if_false, reduceIte, sk0, sk11, sr0_2, c26', hx, bI_0, Bool.true_eq_false, lt0_iff, eq_true a1]
        exact ⟨sam_rf σ, key⟩
      · by_cases a2 : 6 < y.toInt
        · simp only [e92_0, e92_1, e92_4, e92_5, e92_8, e92_11, e92_14, e92_15, e92_16, e92_19, e92_20, e92_22, e92_25, e92_26, e92_29, e92_30, e92_32, e92_35, e92_38, true_or, or_true, true_and, and_true, Option.toList, List.cons_append, List.nil_append, if_true, if_false, reduceIte, sk0, sk11, sr0_2, c26', hx, bI_0, Bool.true_eq_false, lt0_iff, eq_false a1, ey2, eq_true a2]
          exact ⟨sam_rf σ, key⟩
        · by_cases a3 : z.toInt < 0
          · simp only [e92_0, e92_1, e92_4, e92_5, e92_8, e92_11, e92_14, e92_15, e92_16, e92_19, e92_20, e92_22, e92_25, e92_26, e92_29, e92_30, e92_32, e92_35, e92_38, true_or, or_true, true_and, and_true, Option.toList, List.cons_append, List.nil_append, if_true, if_false, reduceIte, sk0, sk11, sr0_2, c26', hx, bI_0, Bool.true_eq_false, lt0_iff, eq_false a1, ey2, eq_false a2, eq_true a3]
            exact ⟨sam_rf σ, key⟩
          · simp only [e92_0, e92_1, e92_4, e92_5, e92_8, e92_11, e92_14, e92_15, e92_16, e92_19, e92_20, e92_22, e92_25, e92_26, e92_29, e92_30, e92_32, e92_35, e92_38, true_or, or_true, true_and, and_true, Option.toList, List.cons_append, List.nil_append, if_true, if_false, reduceIte, sk0, sk11, sr0_2, c26', hx, bI_0, Bool.true_eq_false, lt0_iff, eq_false a1, ey2, eq_false a2, eq_false a3, le_lit, ti10, eq_false (show ¬ z.toInt ≤ 10 by omega)]
            exact ⟨sam_rf σ, key⟩
  · have hx : inR x (tP t) = false := by simpa using hx
    refine op2_q (.long (-1)) hI ?_
    simp only [e92_0, e92_1, e92_4, e92_5, e92_8, e92_11, e92_14, true_or, or_true, true_and, and_true, Option.toList, List.cons_append, List.nil_append, if_true, if_false, reduceIte, sk0, sk11, sr0_2, c26', hx, bI_0]
    refine ⟨sam_rf σ, ?_⟩
    simp only [e144_0, e144_1, e144_2, e144_5, e144_6, e144_7, e144_10, e144_13, e144_16, true_or, or_true, true_and, and_true, Option.toList, List.cons_append, List.nil_append, if_true, if_false, reduceIte, sk50, c117', hx, Bool.not_false, bI_0, Bool.true_eq_false]
    exact s0
