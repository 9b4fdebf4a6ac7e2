/-! THE FIRST GOOD -/
section First
variable {t : gT} {f : Nat → Nat} {th sd T top : Nat} {la : Int32}
theorem can_fol {k i : Nat} {l l' : Int32} (ht : tok t) (hi : i < tS t) (hl : laok t l) (hc' : can t f th sd k l' i = true) : (decide (ta t i = -9) || (2 ^ lb l).testBit (ta t i).toNatClampNeg) = true ↔ can t f th sd k l i = true := by
  have h8 := ht.2.1
  unfold can alw at hc' ⊢
  simp only [Bool.and_eq_true] at hc' ⊢
  by_cases e9 : ta t i = -9
  · simp only [if_pos e9] at hc' ⊢
    rw [e9]
    exact ⟨fun _ => hc', fun _ => rfl⟩
  · simp only [if_neg e9, decide_eq_true_eq] at hc' ⊢
    rw [decide_eq_false e9, Bool.false_or, Nat.testBit_two_pow, decide_eq_true_eq]
    have hta : laok t (ta t i) := by
      rcases (ht.2.2 i hi).2.2.2.2 with e2 | ⟨a, ha, e2⟩
      · exact Or.inl e2
      · exact Or.inr ⟨a, by omega, e2⟩
    have e2 : lb (ta t i) = (ta t i).toNatClampNeg := by unfold lb; rw [if_neg e9]
    rw [← e2]
    exact ⟨fun z => ⟨hc'.1, hc'.2.1, (lb_inj ht hl hta z).symm⟩, fun z => by rw [z.2.2]⟩
set_option maxHeartbeats 8000000 in
/-- firstGood -/
theorem c74 {d k : Nat} {l : Int32} {σ : ab_St} {Q : Option Value → ab_St → Prop} (ht : tok t) (htd : tdV σ 11 t) (hsd : sd < 2 ^ tS t) (hla : laok t la) (hr : Rc t f th sd la k l) (hS : SPD σ t f th sd la) (hG : GDD σ t f th sd la T top sd)
    (hQ0 : (∀ s, s < tS t → ¬ (can t f th sd k l s = true ∧ Gd t f th sd T top (k ||| 2 ^ s) (nI s))) → Q (some (.int (-9))) σ)
    (hQ1 : ∀ s, s < tS t → can t f th sd k l s = true → Gd t f th sd T top (k ||| 2 ^ s) (nI s) → (∀ s', s' < s → ¬ (can t f th sd k l s' = true ∧ Gd t f th sd T top (k ||| 2 ^ s') (nI s'))) → Q (some (.int (nI s))) σ) :
    Ev (d + 2) 74 0 [some (.ref 31), some (.ref 11), some (.int (nI k)), some (.int l), none] [] σ Q := by
  have h8 := ht.2.1
  have h256 := two_le8 _ h8
  have hk := Rc_lt hsd hr
  have hl := Rc_la hla hr
  have hlb := lb_lt ht hl
  have hlb2 : 2 ^ lb l < 512 := Nat.pow_lt_pow_right (by decide) (show lb l < 9 from hlb)
  have ek := in_eq (j := k) (n := 256) (by omega) (by decide)
  have ck := nI_clamp (n := k) (by omega)
  obtain ⟨q1, q2, o, q3, q4, q5⟩ := hS.2 k l hr
  have c64' := fun Q => c64 (d := d + 1) (l := l) (σ := σ) (Q := Q) ht hl
  have key : ∀ (m i : Nat), i + m = tS t → (∀ s, s < i → ¬ (can t f th sd k l s = true ∧ Gd t f th sd T top (k ||| 2 ^ s) (nI s))) → Ev (d + 1 + 1) 74 3 [some (.ref 31), some (.ref 11), some (.int (nI k)), some (.int l), some (.int (nI i))] [] σ Q := by
    intro m
    induction m with
    | zero =>
      intro i hi hno
      have hi2 : i = tS t := by omega
      subst hi2
      have hge : (nI (tS t) ≤ nI (tS t)) = True := eq_true (nI_le (Nat.le_refl _) (by omega))
      rw [e74_3]
      simp only [e74_5, e74_6, e74_9, e74_12, e74_13, e74_16, e74_17, e74_18, e74_20, e74_23, e74_26, e74_27, e74_29, e74_30, e74_33, e74_36, e74_39, e74_40, e74_43, e74_44, e74_45, e74_47, e74_48, e74_49, e74_50, e74_52, e74_55, e74_58, e74_60, e74_61, e74_64, e74_67, e74_69, true_or, or_true, true_and, and_true, Option.toList, List.cons_append, List.nil_append, if_true, if_false, reduceIte, sk11, htd.2.1, hge]
      exact hQ0 hno
    | succ m ih =>
      intro i hi hno
      have his : i < tS t := by omega
      have hge : (nI (tS t) ≤ nI i) = False := eq_false (nI_ge his (by omega))
      have nxt : ¬ (can t f th sd k l i = true ∧ Gd t f th sd T top (k ||| 2 ^ i) (nI i)) → Ev (d + 1 + 1) 74 3 [some (.ref 31), some (.ref 11), some (.int (nI k)), some (.int l), some (.int (nI (i + 1)))] [] σ Q := fun hn => ih (i + 1) (by omega) (fun s hs => by
        by_cases e : s = i
        · subst e; exact hn
        · exact hno s (by omega))
      rw [e74_3]
      cases b1 : o.testBit i
      · simp only [e74_5, e74_6, e74_9, e74_12, e74_13, e74_16, e74_17, e74_18, e74_20, e74_23, e74_26, e74_27, e74_29, e74_30, e74_33, e74_36, e74_39, e74_40, e74_43, e74_44, e74_45, e74_47, e74_48, e74_49, e74_50, e74_52, e74_55, e74_58, e74_60, e74_61, e74_64, true_or, or_true, true_and, and_true, Option.toList, List.cons_append, List.nil_append, if_true, if_false, reduceIte, sk11, sk31, sr31_2, sk36, sn36, htd.2.1, hge, ek, ck, q4, c32 (s := o) (k := i) (by omega) (by omega), b1, bI_0, nI_1]
        refine nxt (fun z => ?_)
        rw [(q5 i).mpr ⟨his, l, hr, z.1⟩] at b1
        exact absurd b1 (by decide)
      · obtain ⟨-, l', hr', hc'⟩ := (q5 i).mp b1
        have hcf := can_fol (l := l) ht his hl hc'
        have c67' := fun Q => c67 (d := d) (s := i) (v := 2 ^ lb l) (σ := σ) (Q := Q) ht htd his (by omega)
        cases b2 : (decide (ta t i = -9) || (2 ^ lb l).testBit (ta t i).toNatClampNeg)
        · simp only [e74_5, e74_6, e74_9, e74_12, e74_13, e74_16, e74_17, e74_18, e74_20, e74_23, e74_26, e74_27, e74_29, e74_30, e74_33, e74_36, e74_39, e74_40, e74_43, e74_44, e74_45, e74_47, e74_48, e74_49, e74_50, e74_52, e74_55, e74_58, e74_60, e74_61, e74_64, true_or, or_true, true_and, and_true, Option.toList, List.cons_append, List.nil_append, if_true, if_false, reduceIte, sk11, sk31, sr31_2, sk36, sn36, htd.2.1, hge, ek, ck, q4, c32 (s := o) (k := i) (by omega) (by omega), b1, bI_0, Bool.true_eq_false, c64', c67', b2, nI_1]
          refine nxt (fun z => ?_)
          rw [hcf.mpr z.1] at b2
          exact absurd b2 (by decide)
        · have hcan := hcf.mp b2
          have hx : k ||| 2 ^ i < 2 ^ tS t := or_lt hk his
          obtain ⟨w, w1, w2, w3⟩ := hG (k ||| 2 ^ i) (Nat.le_trans (Rc_ge hr) Nat.left_le_or) hx
          have ex := in_eq (j := k ||| 2 ^ i) (n := 256) (by omega) (by decide)
          have cx := nI_clamp (n := k ||| 2 ^ i) (by omega)
          have hwi : w.testBit i = true ↔ Gd t f th sd T top (k ||| 2 ^ i) (nI i) := by
            rw [w3 i]
            constructor
            · rintro ⟨l2, hr2, hl2, hgd⟩
              have el2 : l2 = nI i := lb_inj ht (Rc_la hla hr2) (Or.inr ⟨i, his, rfl⟩) (by rw [hl2, lb_n (by omega)])
              subst el2
              exact hgd
            · intro hgd
              exact ⟨nI i, Rc_s hr his hcan, lb_n (by omega), hgd⟩
          cases b3 : w.testBit i
          · simp only [e74_5, e74_6, e74_9, e74_12, e74_13, e74_16, e74_17, e74_18, e74_20, e74_23, e74_26, e74_27, e74_29, e74_30, e74_33, e74_36, e74_39, e74_40, e74_43, e74_44, e74_45, e74_47, e74_48, e74_49, e74_50, e74_52, e74_55, e74_58, e74_60, e74_61, e74_64, true_or, or_true, true_and, and_true, Option.toList, List.cons_append, List.nil_append, if_true, if_false, reduceIte, sk11, sk31, sr31_2, sr31_5, sk36, sn36, sk39, sn39, htd.2.1, hge, ek, ck, q4, c32 (s := o) (k := i) (by omega) (by omega), b1, bI_0, Bool.true_eq_false, c64', c67', b2, nI_set (a := k) (k := i) (by omega) (by omega), ex, cx, w2, c32 (s := w) (k := i) (by omega) (by omega), b3, nI_1]
            refine nxt (fun z => ?_)
            rw [hwi.mpr z.2] at b3
            exact absurd b3 (by decide)
          · simp only [e74_5, e74_6, e74_9, e74_12, e74_13, e74_16, e74_17, e74_18, e74_20, e74_23, e74_26, e74_27, e74_29, e74_30, e74_33, e74_36, e74_39, e74_40, e74_43, e74_44, e74_45, e74_47, e74_48, e74_49, e74_50, e74_52, e74_55, e74_58, e74_60, e74_61, e74_64, true_or, or_true, true_and, and_true, Option.toList, List.cons_append, List.nil_append, if_true, if_false, reduceIte, sk11, sk31, sr31_2, sr31_5, sk36, sn36, sk39, sn39, htd.2.1, hge, ek, ck, q4, c32 (s := o) (k := i) (by omega) (by omega), b1, bI_0, Bool.true_eq_false, c64', c67', b2, nI_set (a := k) (k := i) (by omega) (by omega), ex, cx, w2, c32 (s := w) (k := i) (by omega) (by omega), b3]
            exact hQ1 i his hcan (hwi.mp b3) hno
  simp only [e74_0, e74_1]
  exact key (tS t) 0 (by omega) (fun s hs => by omega)
/-- the way by the first good ones -/
def GR (t : gT) (f : Nat → Nat) (th sd T top : Nat) : List Nat → Nat → Int32 → Prop
  | [], n, l => gnd t sd n = top ∨ ∀ s, s < tS t → ¬ (can t f th sd n l s = true ∧ Gd t f th sd T top (n ||| 2 ^ s) (nI s))
  | s :: r, n, l => gnd t sd n ≠ top ∧ s < tS t ∧ can t f th sd n l s = true ∧ Gd t f th sd T top (n ||| 2 ^ s) (nI s) ∧ (∀ s', s' < s → ¬ (can t f th sd n l s' = true ∧ Gd t f th sd T top (n ||| 2 ^ s') (nI s'))) ∧ GR t f th sd T top r (n ||| 2 ^ s) (nI s)
/-- the saying at place x of the row that begins at place p -/
def rs : List Nat → Nat → Int32 → Int32
  | [], _, _ => -9
  | s :: r, p, x => if nI p = x then nI s else rs r (p + 1) x
set_option maxHeartbeats 8000000 in
/-- sayingOfFirst, from its loop on -/
theorem c71b {d : Nat} {x : Int32} {σ : ab_St} {Q : Option Value → ab_St → Prop} (ht : tok t) (htd : tdV σ 11 t) (hsd : sd < 2 ^ tS t) (hla : laok t la) (htop : top ≤ 72) (hS : SPD σ t f th sd la) (hG : GDD σ t f th sd la T top sd) : ∀ (bl : List Nat) (n p : Nat) (l : Int32) (l9 : Option Value), Rc t f th sd la n l → GR t f th sd T top bl n l → p + bl.length ≤ 8 → Q (some (.int (rs bl p x))) σ →
    Ev (d + 3) 71 39 [some (.ref 31), some (.ref 11), some (.ref 16), some (.int (nI T)), some (.int x), some (.int (nI top)), some (.int (nI n)), some (.int l), some (.int (nI p)), l9] [] σ Q := by
  have h8 := ht.2.1
  have h256 := two_le8 _ h8
  intro bl
  induction bl with
  | nil =>
    intro n p l l9 hr hg hp hQ
    have hn := Rc_lt hsd hr
    obtain ⟨q1, q2, -⟩ := hS.2 n l hr
    have hgp := gnd_le ht sd n
    have ek := in_eq (j := n) (n := 256) (by omega) (by decide)
    have ck := nI_clamp (n := n) (by omega)
    rw [show d + 3 = d + 2 + 1 from rfl, e71_39]
    by_cases hp8 : p = 8
    · subst hp8
      simp only [e71_41, e71_43, e71_46, e71_47, e71_50, e71_52, e71_53, e71_55, e71_58, e71_60, e71_63, e71_64, e71_65, e71_67, e71_69, e71_72, e71_74, e71_76, e71_78, e71_81, e71_83, e71_85, e71_88, e71_90, e71_91, e71_93, e71_94, e71_96, e71_97, e71_98, e71_100, e71_102, e71_104, e71_107, e71_110, e71_112, true_or, or_true, true_and, and_true, Option.toList, List.cons_append, List.nil_append, if_true, if_false, reduceIte, show ((8 : Int32) ≤ nI 8) = True from eq_true (nI_le (a := 8) (b := 8) (by decide) (by decide))]
      exact hQ
    · have hge : ((8 : Int32) ≤ nI p) = False := eq_false (nI_ge (a := p) (b := 8) (by have : ([] : List Nat).length = 0 := rfl; omega) (by decide))
      by_cases hgt : gnd t sd n = top
      · have eg : (nI (gnd t sd n) = nI top) = True := eq_true (by rw [hgt])
        simp only [e71_41, e71_43, e71_46, e71_47, e71_50, e71_52, e71_53, e71_55, e71_58, e71_60, e71_63, e71_64, e71_65, e71_67, e71_69, e71_72, e71_74, e71_76, e71_78, e71_81, e71_83, e71_85, e71_88, e71_90, e71_91, e71_93, e71_94, e71_96, e71_97, e71_98, e71_100, e71_102, e71_104, e71_107, e71_110, e71_112, true_or, or_true, true_and, and_true, Option.toList, List.cons_append, List.nil_append, if_true, if_false, reduceIte, hge, sk31, sr31_4, sk38, sn38, ek, ck, q2, eg]
        exact hQ
      · have eg : (nI (gnd t sd n) = nI top) = False := eq_false (fun e => hgt (nI_inj (by omega) (by omega) e))
        have hno := hg.resolve_left hgt
        simp only [e71_41, e71_43, e71_46, e71_47, e71_50, e71_52, e71_53, e71_55, e71_58, e71_60, e71_63, e71_64, e71_65, e71_67, e71_69, true_or, or_true, true_and, and_true, Option.toList, List.cons_append, List.nil_append, if_true, if_false, reduceIte, hge, sk31, sr31_4, sk38, sn38, ek, ck, q2, eg]
        refine c74 ht htd hsd hla hr hS hG (fun _ => ?_) (fun s hs hc hgd _ => absurd ⟨hc, hgd⟩ (hno s hs))
        simp only [e71_72, e71_74, e71_76, e71_78, e71_81, e71_83, e71_85, e71_88, e71_90, true_or, or_true, true_and, and_true, Option.toList, List.cons_append, List.nil_append, if_true, if_false, reduceIte]
        exact hQ
  | cons s r ih =>
    intro n p l l9 hr hg hp hQ
    have hn := Rc_lt hsd hr
    obtain ⟨q1, q2, -⟩ := hS.2 n l hr
    have hgp := gnd_le ht sd n
    have ek := in_eq (j := n) (n := 256) (by omega) (by decide)
    have ck := nI_clamp (n := n) (by omega)
    obtain ⟨hgt, hs, hc, hgd, hmin, hrest⟩ := hg
    have hlen : (s :: r).length = r.length + 1 := rfl
    have hge : ((8 : Int32) ≤ nI p) = False := eq_false (nI_ge (a := p) (b := 8) (by omega) (by decide))
    have eg : (nI (gnd t sd n) = nI top) = False := eq_false (fun e => hgt (nI_inj (by omega) (by omega) e))
    rw [show d + 3 = d + 2 + 1 from rfl, e71_39]
    simp only [e71_41, e71_43, e71_46, e71_47, e71_50, e71_52, e71_53, e71_55, e71_58, e71_60, e71_63, e71_64, e71_65, e71_67, e71_69, true_or, or_true, true_and, and_true, Option.toList, List.cons_append, List.nil_append, if_true, if_false, reduceIte, hge, sk31, sr31_4, sk38, sn38, ek, ck, q2, eg]
    refine c74 ht htd hsd hla hr hS hG (fun hno => absurd ⟨hc, hgd⟩ (hno s hs)) (fun s2 hs2 hc2 hgd2 hmin2 => ?_)
    have es : s2 = s := by
      rcases Nat.lt_trichotomy s2 s with h | h | h
      · exact absurd ⟨hc2, hgd2⟩ (hmin s2 h)
      · exact h
      · exact absurd ⟨hc, hgd⟩ (hmin2 s h)
    subst es
    have hq : rs (s2 :: r) p x = if nI p = x then nI s2 else rs r (p + 1) x := rfl
    rw [hq] at hQ
    by_cases ex : nI p = x
    · rw [if_pos ex] at hQ
      simp only [e71_72, e71_74, e71_76, e71_78, e71_81, e71_83, e71_85, e71_88, e71_90, true_or, or_true, true_and, and_true, Option.toList, List.cons_append, List.nil_append, if_true, if_false, reduceIte, m9_ne (n := s2) (by omega), eq_true ex]
      exact hQ
    · rw [if_neg ex] at hQ
      simp only [e71_72, e71_74, e71_76, e71_78, e71_81, e71_83, e71_85, e71_88, e71_90, e71_91, e71_93, e71_94, e71_96, e71_97, e71_98, e71_100, e71_102, e71_104, e71_107, true_or, or_true, true_and, and_true, Option.toList, List.cons_append, List.nil_append, if_true, if_false, reduceIte, m9_ne (n := s2) (by omega), eq_false ex, nI_set (a := n) (k := s2) (by omega) (by omega), nI_1]
      exact ih (n ||| 2 ^ s2) (p + 1) (nI s2) _ (Rc_s hr hs hc) hrest (by omega) hQ
end First
