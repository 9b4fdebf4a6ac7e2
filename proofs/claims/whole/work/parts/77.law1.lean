/-! THE LAW'S CALLS -/
theorem ab_ret : ∀ (n d M pc : Nat) (ls : ab_Lo) (st : List Value) (σ : ab_St) (r : Option Value) (σ' : ab_St), ab_run n d M pc ls st σ = some (r, σ') → (ab_R M = some .int → ∃ x, r = some (.int x)) ∧ (ab_R M = some .long → ∃ x, r = some (.long x)) := by
  intro n
  induction n with
  | zero => intro d M pc ls st σ r σ' h; cases h
  | succ n ih =>
    intro d M pc ls st σ r σ' h
    rw [ab_run] at h
    split at h
    next => cases h
    next i len hdg =>
      split at h
      next st' hs => exact ih _ _ _ _ _ _ _ _ h
      next =>
      split at h
      next st' hs => exact ih _ _ _ _ _ _ _ _ h
      next =>
      split at h
      next st' hs => exact ih _ _ _ _ _ _ _ _ h
      next =>
      split at h
      next q hs => exact ih _ _ _ _ _ _ _ _ h
      next =>
      split at h
      next q hs => exact ih _ _ _ _ _ _ _ _ h
      next =>
      split at h
      next q hs => exact ih _ _ _ _ _ _ _ _ h
      next =>
      split at h
      next r1 hs =>
        cases h
        unfold ab_E at hs
        split at hs
        · split at hs
          next hc => cases hs; exact ⟨fun _ => ⟨_, rfl⟩, fun e => by rw [hc] at e; cases e⟩
          next hc =>
            split at hs
            next hc2 => exact ⟨fun e => absurd e hc, fun e => by rw [hc2] at e; cases e⟩
            next => cases hs
        · split at hs
          next hc => cases hs; exact ⟨(fun e => by rw [hc] at e; cases e), fun _ => ⟨_, rfl⟩⟩
          next => cases hs
        · split at hs
          next hc => cases hs; exact ⟨(fun e => by rw [hc] at e; cases e), fun e => by rw [hc] at e; cases e⟩
          next => cases hs
        · cases hs
      next =>
      split at h
      next q d' hs _ _ =>
        split at h
        next w hw => exact ih _ _ _ _ _ _ _ _ h
        next => cases h
      next => cases h
theorem Ev.int {d M pc : Nat} {ls : ab_Lo} {st : List Value} {σ : ab_St} {Q : Option Value → ab_St → Prop} (h : Ev d M pc ls st σ Q) (hR : ab_R M = some .int) : Ev d M pc ls st σ (fun r σ' => (∃ x, r = some (.int x)) ∧ Q r σ') := by
  obtain ⟨n, r, σ', h1, h2⟩ := h
  exact ⟨n, r, σ', h1, (ab_ret _ _ _ _ _ _ _ _ _ h1).1 hR, h2⟩
theorem Ev.long {d M pc : Nat} {ls : ab_Lo} {st : List Value} {σ : ab_St} {Q : Option Value → ab_St → Prop} (h : Ev d M pc ls st σ Q) (hR : ab_R M = some .long) : Ev d M pc ls st σ (fun r σ' => (∃ x, r = some (.long x)) ∧ Q r σ') := by
  obtain ⟨n, r, σ', h1, h2⟩ := h
  exact ⟨n, r, σ', h1, (ab_ret _ _ _ _ _ _ _ _ _ h1).2 hR, h2⟩
/-- what the law's walk stands on -/
def la_At (dC : Nat → ClassId) (dI : Nat → Nat → Nat) (cA : Nat → ClassId) (ad : Nat → Nat) (p : Program) (s : State) (m : MethodId) (meth : Method) (c : Code) (b L : Nat) (xs : Nat → Int32) : Prop :=
  p.tables.exec = Jvm.exec ∧ c.code = code ∧ meth.sig.returnType = ret ∧ c.maxLocals = 4 ∧ s.vm.findClass R_law = some m.cls ∧ (∀ w ∈ ab_gt, w.before #[Value.ref b] s = true) ∧ va_X b L xs s s.heap ∧ b < s.heap.size ∧ meth.locks = false ∧ ab_Env dC dI ad cA s s.heap ∧ ∀ q, ab_Ad ad q → s.heap.size ≤ q
def la_Wd (dC : Nat → ClassId) (dI : Nat → Nat → Nat) (cA : Nat → ClassId) (ad : Nat → Nat) (s : State) (σ : ab_St) (H : Heap) (locs : List Loc) : Prop := va_P (dC, dI) ab_classes (ab_w ad cA σ) H ∧ va_D (ab_Ad ad) (ab_w ad cA σ) ∧ va_S (ab_Ad ad) s.heap H locs
/-- a method that the law calls -/
def la_lk (idx y na : Nat) : Prop := y < 149 ∧ (y ≠ 1 ∧ y ≠ 56 ∧ y ≠ 90) ∧ (parseMethodDescriptor (ab_N y).desc).map (fun d => d.parameters.length) = some na ∧ Cond.initialized (ab_N y).cls ∈ ab_gt ∧ Cond.methodLink R_law idx (ab_N y) ∈ ab_gt ∧ Cond.instanceMethod (ab_N y) ∈ ab_gt ∧ Cond.selects (ab_N y).cls (ab_N y) (ab_N y) ∈ ab_gt ∧ (∃ T, ab_classes[ab_O y]? = some ((ab_N y).cls, T, ab_nF (ab_O y))) ∧ ab_O y < 100
section LA
variable {p : Program} {l : Launch} {e : Env} {s : State} {m : MethodId} {below : List Frame} {meth : Method} {c : Code} {H : Heap} {locs : List Loc} {cells slots : Nat} {Q : State → Prop}
variable {dC : Nat → ClassId} {dI : Nat → Nat → Nat} {cA : Nat → ClassId} {ad : Nat → Nat} {b L : Nat} {xs : Nat → Int32} {pc : Nat} {ls : Array Slot} {rest : List Value} {σ : ab_St}
theorem la_call {idx y na b0 : Nat} {as : List Value} {P : Option Value → ab_St → Prop} (X : la_At dC dI cA ad p s m meth c b L xs) (hls : ls.size = 4) (hlk : la_lk idx y na) (hk0 : ab_k b0 = ab_O y) (hna : as.length = na) (hsl : (ab_sl (.ref b0 :: as)).length ≤ ab_L y) (hWd : la_Wd dC dI cA ad s σ H locs) (hev : Ev 8 y 0 (ab_ent (ab_L y) (.ref b0 :: as)) [] σ P) (hrest : (rest.map fun v => v.category).sum ≤ 8) (hdg : decode code pc = .ok (.invokevirtual idx, 3)) (hcells : cells ≤ room_1.cells) (hslots : slots ≤ room_1.slots)
    (kk : ∀ (r : Option Value) (σ1 : ab_St) (H1 : Heap) (locs1 : List Loc), P r σ1 → la_Wd dC dI cA ad s σ1 H1 locs1 → W p l e room_1 s m #[Value.ref b] below meth c H1 locs1 cells slots Q (F0 m (pc + 3) ls ((r.map (ab_cv ad)).toList ++ rest))) : W p l e room_1 s m #[Value.ref b] below meth c H locs cells slots Q (F0 m pc ls ((as.map (ab_cv ad)).reverse ++ .ref (ad b0) :: rest)) := by
  obtain ⟨hx, hb, hr, hml, hown, hts, hX, hbl, hlocks, hE, hAd⟩ := X
  obtain ⟨hP, hD, hS⟩ := hWd
  obtain ⟨n, r, σ1, hrun, hPr⟩ := hev
  obtain ⟨g1, g2, g3, g4, w1, w2, w3, ⟨T, w4⟩, w5⟩ := hlk
  obtain ⟨m1, m2, m3, m4⟩ := ab_m_in g1 g2
  have hM := ab_met (l := l) (dC := dC) (dI := dI) (ad := ad) (cA := cA) hrun ⟨g1, g2⟩ hsl
  have hG : GoodIn ab_gt (wsV R_law idx (ab_N y).cls (ab_N y) (ab_ws y)) := ab_good_of (by
    intro w hw
    rcases List.mem_append.mp hw with hw | hw
    · simp only [List.mem_cons, List.not_mem_nil, or_false] at hw
      rcases hw with rfl | rfl | rfl | rfl
      · exact w1
      · exact w2
      · exact w3
      · exact g4
    · exact ab_ws_sub g1 w hw)
  have hpre : ∀ (U : State), U.heap = H → s.WarmedH U.vm → va_Pc (.ref (ad b0) :: as.map (ab_cv ad)) (ab_B dC dI ad cA σ) (Value.ref (ad b0) :: as.map (ab_cv ad)).toArray U := fun U hU hW => ⟨rfl, ab_env_at hE hS hU hW, by rw [hU]; exact hP, hD⟩
  have hrn := va_runV (p := p) (e := e) (R := room_1) (below := below) (meth := meth) (locs := locs) (cells := cells) (slots := slots) (g := F0 m pc ls ((as.map (ab_cv ad)).reverse ++ .ref (ad b0) :: rest)) (b := ad b0) (As := as.map (ab_cv ad)) (rest := rest) ⟨hx, hb, hml, hown, hts⟩ hM (cwV na hts hG rfl rfl rfl ⟨rfl, m3.1, m3.2, g3⟩ ⟨Nat.le_refl 9, by show 8 + (ab_L y + 11) + 36 * 8 ≤ 344; omega⟩) ⟨ab_blind, va_recv hE.1 hP w4 (ab_at_o ad cA σ hk0 w5), hpre⟩ rfl (by rw [List.length_map]; exact hna) hls rfl (lv_room hrest) hdg ⟨hcells, hslots⟩
  intro T hT X
  obtain ⟨v, st₀, t, T', L', h0, X', hL, e1, e2, ⟨⟨hv, hB⟩, hz, hk⟩, st⟩ := hrn T hT X
  cases hv
  rw [h0] at hz hk
  obtain ⟨-, hP1, hD1⟩ := hB
  rw [← e1] at hP1
  obtain ⟨t2, a1, b1⟩ := kk r σ1 T'.heap (locs ++ L') hPr ⟨hP1, hD1, ⟨Nat.le_trans hS.1 (by rw [e1]; exact hz), fun q h1 h2 => by rw [e1, hk q (Nat.lt_of_lt_of_le h1 hS.1) h2]; exact hS.2.1 q h1 h2, fun q hq => by
      rcases List.mem_append.mp hq with h | h
      · exact hS.2.2 q h
      · exact hL q h⟩⟩ T' rfl X'
  exact ⟨t2, st t2 a1, b1⟩
/-- the decode rows of script[i + j] -/
def la_bk (pc j : Nat) : Prop := decode code pc = .ok (.aload_n 0, 1) ∧ decode code (pc + 1) = .ok (.iload_n 3, 1) ∧ decode code (pc + 2) = .ok (.iconst (j : Int), 1) ∧ decode code (pc + 3) = .ok (.iadd, 1) ∧ decode code (pc + 4) = .ok (.iaload, 1)
theorem la_arg {i j : Nat} (X : la_At dC dI cA ad p s m meth c b L xs) (h0 : ls[0]? = some (.val (.ref b))) (h3 : ls[3]? = some (.val (.int (nI i)))) (hL : L ≤ 2560) (hij : i + j < L) (hWd : la_Wd dC dI cA ad s σ H locs) (hd : la_bk pc j)
    (kk : W p l e room_1 s m #[Value.ref b] below meth c H locs cells slots Q (F0 m (pc + 5) ls (.int (xs (i + j)) :: rest))) : W p l e room_1 s m #[Value.ref b] below meth c H locs cells slots Q (F0 m pc ls rest) := by
  obtain ⟨hx, hb, hr, hml, hown, hts, hX, hbl, hlocks, hE, hAd⟩ := X
  obtain ⟨hP, hD, hS⟩ := hWd
  obtain ⟨d0, d1, d2, d3, d4⟩ := hd
  refine lv_aload_n hx hb d0 rfl h0 ?_
  refine lv_iload_n hx hb d1 rfl h3 ?_
  refine lv_iconst (v := nI j) hx hb d2 rfl ?_
  refine lv_iadd hx hb d3 ?_
  rw [nI_add]
  have hbA : ¬ ab_Ad ad b := fun h => Nat.not_le.mpr hbl (hAd b h)
  refine va_sld hx hb hX hbl hbA hS (vp_in_nI hij (by omega)) d4 ?_
  have : (nI (i + j)).toNatClampNeg = i + j := Int32.toNatClampNeg_ofNat_of_lt (by omega)
  rw [this]
  exact kk
/-- script[i] & 31 -/
theorem la_code (x : Int32) : ∃ k, k < 32 ∧ x &&& 31 = nI k := by
  refine ⟨(x.toBitVec &&& 31#32).toNat, ?_, ?_⟩
  · rw [BitVec.toNat_and]
    exact Nat.lt_of_le_of_lt Nat.and_le_right (by decide)
  · apply Int32.toBitVec_inj.mp
    show x.toBitVec &&& 31#32 = BitVec.ofNat 32 (x.toBitVec &&& 31#32).toNat
    rw [BitVec.ofNat_toNat, BitVec.setWidth_eq]
/-- x != 0 -/
theorem la_bool {x : Int32} (X : la_At dC dI cA ad p s m meth c b L xs) (d0 : decode code pc = .ok (.ifCond .eq 7, 3)) (d1 : decode code (pc + 3) = .ok (.iconst 1, 1)) (d2 : decode code (pc + 3 + 1) = .ok (.goto 4, 3)) (d3 : decode code (pc + 7) = .ok (.iconst 0, 1))
    (kk : W p l e room_1 s m #[Value.ref b] below meth c H locs cells slots Q (F0 m (pc + 8) ls (.int (if x = 0 then 0 else 1) :: rest))) : W p l e room_1 s m #[Value.ref b] below meth c H locs cells slots Q (F0 m pc ls (.int x :: rest)) := by
  obtain ⟨hx, hb, hr, hml, hown, hts, hX, hbl, hlocks, hE, hAd⟩ := X
  refine lv_if_eq (tgt := pc + 7) hx hb d0 (by omega) (fun h => ?_) (fun h => ?_)
  · refine lv_iconst (v := 0) hx hb d3 rfl ?_
    rw [if_pos h] at kk
    exact kk
  · refine lv_iconst (v := 1) hx hb d1 rfl ?_
    refine lv_goto (tgt := pc + 8) hx hb d2 (by omega) ?_
    rw [if_neg h] at kk
    exact kk
end LA
