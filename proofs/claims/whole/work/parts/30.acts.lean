/-! ACTS -/
def fiN (fi ac : Nat) : Nat := if ac = 12 then (fi + 1) % 12 else fi
theorem ntC_lt {ac : Nat} (h : ac ≤ 12) : ntC ac < 12 := by unfold ntC; split <;> omega
theorem fiN_lt {fi ac : Nat} (h : fi < 12) : fiN fi ac < 12 := by unfold fiN; split <;> omega
def plN (fi ac : Nat) : Nat := (fiN fi ac + ntC ac) % 12
/-- behind Acts.remember -/
def rmb (σ : ab_St) (p fi ac : Nat) : ab_St := ab_wI (ab_wI (ab_wI (ab_wI (ab_wI (ab_wI σ 21 (upd (σ.1 21) (plN fi ac) (nI p))) 22 (upd (σ.1 22) (plN fi ac) (σ.1 17 p))) 23 (upd (σ.1 23) (plN fi ac) (σ.1 16 1))) 24 (upd (σ.1 24) (plN fi ac) (σ.1 16 2))) 25 (upd (σ.1 25) (plN fi ac) (σ.1 16 3))) 20 (upd (upd (σ.1 20) 5 (nI (fiN fi ac))) 6 (nI (ntC ac + 1)))
theorem wI_comm (σ : ab_St) {a b : Nat} (f g : Nat → Int32) (h : a ≠ b) : ab_wI (ab_wI σ a f) b g = ab_wI (ab_wI σ b g) a f := by
  refine Prod.ext (funext fun k => ?_) rfl
  simp only [ab_wI]
  by_cases e1 : k = a
  · subst e1; simp [h]
  · by_cases e2 : k = b
    · subst e2; simp [e1]
    · simp [e1, e2]
theorem upd_upd (g : Nat → Int32) (k : Nat) (x y : Int32) : upd (upd g k x) k y = upd g k y := by
  funext j
  unfold upd
  split <;> rfl
theorem upd_comm (g : Nat → Int32) {a b : Nat} (x y : Int32) (h : a ≠ b) : upd (upd g a x) b y = upd (upd g b y) a x := by
  funext j
  unfold upd
  by_cases e1 : j = a
  · subst e1; simp [h]
  · by_cases e2 : j = b
    · subst e2; simp [e1]
    · simp [e1, e2]
theorem rem12 {a : Nat} (h : a < 1000) : nI a - nI a / 12 * 12 = nI (a % 12) := pk_rem (a := a) (d := 12) (by omega) (by decide) (by decide)
set_option maxHeartbeats 4000000 in
/-- Acts.remember -/
theorem c48 {d p fi ac : Nat} {σ : ab_St} {Q : Option Value → ab_St → Prop} (hp : p < 6) (v5 : σ.1 20 5 = nI fi) (v6 : σ.1 20 6 = nI ac) (hfi : fi < 12) (hac : ac ≤ 12) : Ev d 48 0 [some (.ref 20), some (.ref 16), some (.int (nI p)), none] [] σ Q = Q none (rmb σ p fi ac) := by
  have hpl : plN fi ac < 12 := Nat.mod_lt _ (by decide)
  have hnt := ntC_lt hac
  have hft := fiN_lt (ac := ac) hfi
  have n12 : ¬ (12 : Int32) = 0 := by decide
  have key : ∀ (τ : ab_St), τ.1 20 5 = nI (fiN fi ac) → τ.1 20 6 = nI (ntC ac) → (∀ c, c ≠ 20 → τ.1 c = σ.1 c) → τ.2 = σ.2 → (∀ k, k ≠ 5 → k ≠ 6 → τ.1 20 k = σ.1 20 k) → Ev d 48 32 [some (.ref 20), some (.ref 16), some (.int (nI p)), none] [] τ Q = Q none (rmb σ p fi ac) := by
    intro τ w5 w6 wo wl wk
    have hs := rem12 (a := fiN fi ac + ntC ac) (by omega)
    have e17 := wo 17 (by decide)
    have e16 := wo 16 (by decide)
    have e21 := wo 21 (by decide)
    have e22 := wo 22 (by decide)
    have e23 := wo 23 (by decide)
    have e24 := wo 24 (by decide)
    have e25 := wo 25 (by decide)
    have hplE : (fiN fi ac + ntC ac) % 12 = plN fi ac := rfl
    have x1 : ∀ υ g, (ab_wI υ 21 g).1 20 = υ.1 20 := fun υ g => wI_ne υ g (by decide)
    have x2 : ∀ υ g, (ab_wI υ 22 g).1 20 = υ.1 20 := fun υ g => wI_ne υ g (by decide)
    have x3 : ∀ υ g, (ab_wI υ 23 g).1 20 = υ.1 20 := fun υ g => wI_ne υ g (by decide)
    have x4 : ∀ υ g, (ab_wI υ 24 g).1 20 = υ.1 20 := fun υ g => wI_ne υ g (by decide)
    have x5 : ∀ υ g, (ab_wI υ 25 g).1 20 = υ.1 20 := fun υ g => wI_ne υ g (by decide)
    have y1 : ∀ υ g, (ab_wI υ 21 g).1 16 = υ.1 16 := fun υ g => wI_ne υ g (by decide)
    have y2 : ∀ υ g, (ab_wI υ 22 g).1 16 = υ.1 16 := fun υ g => wI_ne υ g (by decide)
    have y3 : ∀ υ g, (ab_wI υ 23 g).1 16 = υ.1 16 := fun υ g => wI_ne υ g (by decide)
    have y4 : ∀ υ g, (ab_wI υ 24 g).1 16 = υ.1 16 := fun υ g => wI_ne υ g (by decide)
    have z1 : ∀ υ g, (ab_wI υ 21 g).1 17 = υ.1 17 := fun υ g => wI_ne υ g (by decide)
    have u1 : ∀ υ g, (ab_wI υ 21 g).1 22 = υ.1 22 := fun υ g => wI_ne υ g (by decide)
    have u2 : ∀ υ g, (ab_wI υ 21 g).1 23 = υ.1 23 := fun υ g => wI_ne υ g (by decide)
    have u3 : ∀ υ g, (ab_wI υ 22 g).1 23 = υ.1 23 := fun υ g => wI_ne υ g (by decide)
    have u4 : ∀ υ g, (ab_wI υ 21 g).1 24 = υ.1 24 := fun υ g => wI_ne υ g (by decide)
    have u5 : ∀ υ g, (ab_wI υ 22 g).1 24 = υ.1 24 := fun υ g => wI_ne υ g (by decide)
    have u6 : ∀ υ g, (ab_wI υ 23 g).1 24 = υ.1 24 := fun υ g => wI_ne υ g (by decide)
    have u7 : ∀ υ g, (ab_wI υ 21 g).1 25 = υ.1 25 := fun υ g => wI_ne υ g (by decide)
    have u8 : ∀ υ g, (ab_wI υ 22 g).1 25 = υ.1 25 := fun υ g => wI_ne υ g (by decide)
    have u9 : ∀ υ g, (ab_wI υ 23 g).1 25 = υ.1 25 := fun υ g => wI_ne υ g (by decide)
    have u10 : ∀ υ g, (ab_wI υ 24 g).1 25 = υ.1 25 := fun υ g => wI_ne υ g (by decide)
    simp only [e48_0, e48_1, e48_4, e48_6, e48_9, e48_10, e48_11, e48_14, e48_15, e48_16, e48_18, e48_19, e48_22, e48_23, e48_24, e48_27, e48_28, e48_29, e48_32, e48_33, e48_36, e48_37, e48_40, e48_41, e48_43, e48_44, e48_45, e48_46, e48_49, e48_50, e48_51, e48_52, e48_53, e48_56, e48_57, e48_58, e48_61, e48_62, e48_63, e48_64, e48_65, e48_68, e48_69, e48_70, e48_73, e48_74, e48_75, e48_78, e48_79, e48_80, e48_83, e48_84, e48_85, e48_88, e48_89, e48_90, e48_93, e48_94, e48_95, e48_96, e48_99, e48_100, e48_101, e48_104, true_or, or_true, true_and, and_true, Option.toList, List.cons_append, List.nil_append, if_true, if_false, reduceIte, sk20, sk16, sk17, sn17, sr16_0, sk21, sn21, sk22, sn22, sk23, sn23, sk24, sn24, sk25, sn25, sr20_0, sr20_1, sr20_2, sr20_3, sr20_4, w5, w6, nI_add, n12, not_false_eq_true, hs, hplE, in_eq (j := plN fi ac) (n := 12) hpl (by decide), nI_clamp (n := plN fi ac) (by omega), in_eq (j := p) (n := 6) hp (by decide), nI_clamp (n := p) (by omega), x1, x2, x3, x4, x5, y1, y2, y3, y4, z1, u1, u2, u3, u4, u5, u6, u7, u8, u9, u10, e16, e17, e21, e22, e23, e24, e25, nI_1]
    congr 1
    refine Prod.ext (funext fun k => ?_) wl
    unfold rmb
    by_cases k20 : k = 20
    · subst k20
      rw [wI_eq, wI_eq]
      funext j
      by_cases j6 : j = 6
      · subst j6; rw [upd_eq, upd_eq]
      · rw [upd_ne _ _ j6, upd_ne _ _ j6]
        by_cases j5 : j = 5
        · subst j5; rw [upd_eq]; exact w5
        · rw [upd_ne _ _ j5]; exact wk j j5 j6
    · rw [wI_ne _ _ k20, wI_ne _ _ k20]
      simp only [ab_wI, wo k k20]
  by_cases h12 : ac = 12
  · subst h12
    have e1 : nI fi + 1 = nI (fi + 1) := nI_1 fi
    have e2 := rem12 (a := fi + 1) (by omega)
    simp only [e48_0, e48_1, e48_4, e48_6, true_or, or_true, true_and, and_true, Option.toList, List.cons_append, List.nil_append, if_true, if_false, reduceIte, sk20, v6, show nI 12 = (12 : Int32) from rfl]
    simp only [e48_9, e48_10, e48_11, e48_14, e48_15, e48_16, e48_18, e48_19, e48_22, e48_23, e48_24, e48_27, e48_28, e48_29, true_or, or_true, true_and, and_true, Option.toList, List.cons_append, List.nil_append, if_true, if_false, reduceIte, sk20, v5, e1, e2, n12, not_false_eq_true, wI_eq, wI_wI, upd_ne (σ.1 20) (k := 5) (j := 6) _ (by decide), v6, show nI 12 = (12 : Int32) from rfl]
    refine key _ ?_ ?_ (fun c hc => wI_ne σ _ hc) rfl (fun k k5 k6 => ?_)
    · rw [wI_eq, upd_ne _ _ (by decide), upd_eq]; rfl
    · rw [wI_eq, upd_eq]; rfl
    · rw [wI_eq, upd_ne _ _ k6, upd_ne _ _ k5]
  · have hne : ¬ nI ac = (12 : Int32) := fun e => h12 (nI_inj (b := 12) (by omega) (by decide) e)
    simp only [e48_0, e48_1, e48_4, e48_6, true_or, or_true, true_and, and_true, Option.toList, List.cons_append, List.nil_append, if_true, if_false, reduceIte, sk20, v6, hne]
    refine key σ ?_ ?_ (fun _ _ => rfl) rfl (fun _ _ _ => rfl)
    · rw [v5]; unfold fiN; rw [if_neg h12]
    · rw [v6]; unfold ntC; rw [if_neg h12]
/-- what rmb leaves -/
theorem rmb_o (σ : ab_St) (p fi ac : Nat) {c : Nat} (h : c ∉ [20, 21, 22, 23, 24, 25]) : (rmb σ p fi ac).1 c = σ.1 c := by
  simp only [List.mem_cons, List.not_mem_nil, or_false, not_or] at h
  unfold rmb
  rw [wI_ne _ _ h.1, wI_ne _ _ h.2.2.2.2.2, wI_ne _ _ h.2.2.2.2.1, wI_ne _ _ h.2.2.2.1, wI_ne _ _ h.2.2.1, wI_ne _ _ h.2.1]
theorem rmb_20 (σ : ab_St) (p fi ac : Nat) : (rmb σ p fi ac).1 20 = upd (upd (σ.1 20) 5 (nI (fiN fi ac))) 6 (nI (ntC ac + 1)) := by unfold rmb; rw [wI_eq]
theorem rmb_21 (σ : ab_St) (p fi ac : Nat) : (rmb σ p fi ac).1 21 = upd (σ.1 21) (plN fi ac) (nI p) := by
  unfold rmb
  rw [wI_ne _ _ (by decide), wI_ne _ _ (by decide), wI_ne _ _ (by decide), wI_ne _ _ (by decide), wI_ne _ _ (by decide), wI_eq]
theorem rmb_22 (σ : ab_St) (p fi ac : Nat) : (rmb σ p fi ac).1 22 = upd (σ.1 22) (plN fi ac) (σ.1 17 p) := by
  unfold rmb
  rw [wI_ne _ _ (by decide), wI_ne _ _ (by decide), wI_ne _ _ (by decide), wI_ne _ _ (by decide), wI_eq]
theorem rmb_23 (σ : ab_St) (p fi ac : Nat) : (rmb σ p fi ac).1 23 = upd (σ.1 23) (plN fi ac) (σ.1 16 1) := by
  unfold rmb
  rw [wI_ne _ _ (by decide), wI_ne _ _ (by decide), wI_ne _ _ (by decide), wI_eq]
theorem rmb_24 (σ : ab_St) (p fi ac : Nat) : (rmb σ p fi ac).1 24 = upd (σ.1 24) (plN fi ac) (σ.1 16 2) := by
  unfold rmb
  rw [wI_ne _ _ (by decide), wI_ne _ _ (by decide), wI_eq]
theorem rmb_25 (σ : ab_St) (p fi ac : Nat) : (rmb σ p fi ac).1 25 = upd (σ.1 25) (plN fi ac) (σ.1 16 3) := by
  unfold rmb
  rw [wI_ne _ _ (by decide), wI_eq]
/-- one more act, in both -/
def h1N {α : Type} (ac : Nat) (h : Nat → α) (x : α) : Nat → α := fun i => if i = ntC ac then x else if ac = 12 then h (i + 1) else h i
theorem place_ne {fi ac i : Nat} (hac : ac ≤ 12) (hi : i < ntC ac) : (fiN fi ac + i) % 12 ≠ plN fi ac := by
  have := ntC_lt hac
  unfold plN
  omega
theorem place_eq {fi ac i : Nat} (hi : i < ntC ac) : (fiN fi ac + i) % 12 = (fi + (if ac = 12 then i + 1 else i)) % 12 := by
  unfold fiN
  split <;> omega
set_option maxHeartbeats 2000000 in
theorem ac_push {σ τ : ab_St} {t : gT} {B C ac fi p : Nat} {f f2 : Nat → Nat} {th sd : Nat} {la : Int32} {lw : Nat} {hw : Nat → Nat} {hf : Nat → Nat → Nat} {hth hsd : Nat → Nat} {hla : Nat → Int32} (hB : B ≤ C) (ht : tok t) (h : iAc σ t B f ac fi hw hf hth hsd hla) (hn : nok t B f th sd la lw) (hi : iNow σ t f th sd la lw) (hp : p < tP t) (hf2 : ∀ q, q < tP t → q ≠ p → f q = f2 q)
    (a20 : τ.1 20 = (rmb σ p fi ac).1 20) (a21 : τ.1 21 = (rmb σ p fi ac).1 21) (a22 : τ.1 22 = (rmb σ p fi ac).1 22) (a23 : τ.1 23 = (rmb σ p fi ac).1 23) (a24 : τ.1 24 = (rmb σ p fi ac).1 24) (a25 : τ.1 25 = (rmb σ p fi ac).1 25)
    (m62 : τ.1 62 = pgL (ntB (σ.1 62) ac) (16 * ntC ac) (σ.1 52) (σ.1 50 7) (σ.1 50 13) (σ.1 50 14)) (m25 : τ.1 50 25 = nI (ntC ac + 1)) :
    iAc τ t C f2 (ntC ac + 1) (fiN fi ac) (h1N ac hw p) (fun i => if i = ntC ac + 1 then f2 else h1N ac hf f i) (h1N ac hth th) (h1N ac hsd sd) (h1N ac hla la) := by
  obtain ⟨h1, h2, h3, h4, h5, h6, h7, h8⟩ := h
  obtain ⟨n0, n1, n2, n3, n4, n5, n6, n7, n8⟩ := hi
  have hnt := ntC_lt h1
  rw [rmb_20] at a20
  rw [rmb_21] at a21
  rw [rmb_22] at a22
  rw [rmb_23] at a23
  rw [rmb_24] at a24
  rw [rmb_25] at a25
  have hP := ht.1
  have bk : ∀ i j, i < ntC ac → j < 9 → τ.1 62 (16 * i + j) = σ.1 62 (16 * (if ac = 12 then i + 1 else i) + j) := by
    intro i j hi hj
    rw [m62, pgL_o (by omega)]
    by_cases e : ac = 12
    · have e' : (if ac = 12 then i + 1 else i) = i + 1 := if_pos e
      have eb : ntB (σ.1 62) ac = (fun j => if j < 176 then σ.1 62 (j + 16) else σ.1 62 j) := if_pos e
      have ec : ntC ac = 11 := if_pos e
      rw [e', eb]
      show (if 16 * i + j < 176 then σ.1 62 (16 * i + j + 16) else σ.1 62 (16 * i + j)) = _
      rw [if_pos (by omega), show 16 * i + j + 16 = 16 * (i + 1) + j by omega]
    · have e' : (if ac = 12 then i + 1 else i) = i := if_neg e
      have eb : ntB (σ.1 62) ac = σ.1 62 := if_neg e
      rw [e', eb]
  refine ⟨by omega, fiN_lt h2, by rw [a20, upd_ne _ _ (by decide), upd_eq], by rw [a20, upd_eq], m25, fun i hi => ?_, fun q hq => ?_, fun i hi q hq hne => ?_⟩
  · by_cases e : i = ntC ac
    · subst e
      have hp6 : p < 6 := by omega
      have e1 : h1N ac hw p (ntC ac) = p := if_pos rfl
      have e2 : (if ntC ac = ntC ac + 1 then f2 else h1N ac hf f (ntC ac)) = f := by rw [if_neg (by omega)]; exact if_pos rfl
      have e3 : h1N ac hth th (ntC ac) = th := if_pos rfl
      have e4 : h1N ac hsd sd (ntC ac) = sd := if_pos rfl
      have e5 : h1N ac hla la (ntC ac) = la := if_pos rfl
      dsimp only
      rw [e1, e2, e3, e4, e5]
      have hpl : (fiN fi ac + ntC ac) % 12 = plN fi ac := rfl
      refine ⟨hp, ⟨hn.1, hn.2.1, hn.2.2.1, by decide, fun q hq => Nat.le_trans (hn.2.2.2.2 q hq) hB⟩, ?_, ?_⟩
      · rw [hpl, a21, a22, a23, a24, a25, upd_eq, upd_eq, upd_eq, upd_eq, upd_eq]
        exact ⟨rfl, (n0 p hp).1, n1, n3, n5⟩
      · rw [m62]
        refine ⟨fun q hq => ?_, ?_, ?_, ?_⟩
        · rw [pgL_w (by omega)]; exact (n0 q hq).2
        · rw [pgL_6]; exact n2
        · rw [pgL_7]; exact n4
        · rw [pgL_8]; exact n6
    · have hi2 : i < ntC ac := by omega
      have hj : (if ac = 12 then i + 1 else i) < ac := by
        unfold ntC at hi2
        by_cases e : ac = 12
        · rw [if_pos e] at hi2 ⊢; omega
        · rw [if_neg e] at hi2 ⊢; omega
      have hA := h6 _ hj
      have q : ∀ {α : Type} (g : Nat → α) (x : α), h1N ac g x i = g (if ac = 12 then i + 1 else i) := by
        intro α g x
        unfold h1N
        rw [if_neg e]
        split <;> rfl
      have q2 : (if i = ntC ac + 1 then f2 else h1N ac hf f i) = hf (if ac = 12 then i + 1 else i) := by rw [if_neg (by omega)]; exact q hf f
      dsimp only
      rw [q, q2, q, q, q]
      generalize hjj : (if ac = 12 then i + 1 else i) = jj at hA hj
      have bk9 : ∀ j, j < 9 → τ.1 62 (16 * i + j) = σ.1 62 (16 * jj + j) := fun j hj => by rw [bk i j hi2 hj, hjj]
      obtain ⟨b1, b2, b3, b4, b5, b6, b7⟩ := hA
      refine ⟨b1, nok_up hB b2, ?_, fun q hq => ?_, ?_, ?_, ?_⟩
      · have hpn := place_ne (fi := fi) h1 hi2
        rw [a21, a22, a23, a24, a25, upd_ne _ _ hpn, upd_ne _ _ hpn, upd_ne _ _ hpn, upd_ne _ _ hpn, upd_ne _ _ hpn, place_eq hi2, hjj]
        exact b3
      · rw [bk9 q (by omega)]; exact b4 q hq
      · rw [bk9 6 (by omega)]; exact b5
      · rw [bk9 7 (by omega)]; exact b6
      · rw [bk9 8 (by omega)]; exact b7
  · dsimp only
    rw [if_pos rfl]
  · dsimp only
    by_cases e : i = ntC ac
    · subst e
      have e1 : h1N ac hw p (ntC ac) = p := if_pos rfl
      rw [e1] at hne
      rw [if_neg (by omega), if_pos rfl]
      show h1N ac hf f (ntC ac) q = f2 q
      unfold h1N
      rw [if_pos rfl]
      exact hf2 q hq hne
    · have hi2 : i < ntC ac := by omega
      rw [if_neg (by omega), if_neg (by omega)]
      unfold h1N at hne ⊢
      rw [if_neg e] at hne ⊢
      unfold ntC at hi2 e hi ⊢
      by_cases e12 : ac = 12
      · rw [if_pos e12] at hne hi2 ⊢
        rw [if_pos e12]
        have h9 := h8 (i + 1) (by omega) q hq hne
        by_cases e11 : i + 1 = 11
        · rw [if_pos e11]
          have : hf 12 q = f q := by have := h7 q hq; rw [e12] at this; exact this
          rw [h9, show i + 1 + 1 = 12 by omega]
          exact this
        · rw [if_neg e11, if_pos e12]
          exact h9
      · rw [if_neg e12] at hne hi2 ⊢
        rw [if_neg e12]
        have h9 := h8 i (by omega) q hq hne
        by_cases e11 : i + 1 = ac
        · rw [if_pos e11]
          rw [h9, e11]
          exact h7 q hq
        · rw [if_neg e11, if_neg e12]
          exact h9
