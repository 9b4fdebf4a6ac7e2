/-! A RUN OF THE SMALL MACHINE IS ONE OF THE MACHINE -/
def ab_B (dC : Nat → ClassId) (dI : Nat → Nat → Nat) (ad : Nat → Nat) (cA : Nat → ClassId) (σ : ab_St) (U : State) : Prop := ab_Env dC dI ad cA U U.heap ∧ va_P (dC, dI) ab_classes (ab_w ad cA σ) U.heap ∧ va_D (ab_Ad ad) (ab_w ad cA σ)
def ab_Q (dC : Nat → ClassId) (dI : Nat → Nat → Nat) (ad : Nat → Nat) (cA : Nat → ClassId) (r : Option Value) (σ : ab_St) : Array Value → State → Outcome → State → Prop := fun _ st oc t => (oc = .returned (r.map (ab_cv ad)) ∧ ab_B dC dI ad cA σ t) ∧ va_F (ab_Ad ad) st t
def ab_ok (M : Nat) : Prop := M < 149 ∧ M ≠ 1 ∧ M ≠ 56 ∧ M ≠ 90
theorem ab_nest_tab : ∀ w ∈ ab_nest, w.onTables = true := by decide +kernel
theorem ab_nest_warm {s U : State} (hW : s.WarmedH U.vm) : ∀ w ∈ ab_nest, va_Nw w s → va_Nw w U := by
  intro w hw
  unfold ab_nest at hw
  simp only [List.mem_cons, List.not_mem_nil, or_false] at hw
  rcases hw with rfl | rfl | rfl | rfl | rfl | rfl | rfl | rfl | rfl
  all_goals first | exact fun h => va_Nw.warmM hW h | exact fun h => va_Nw.warmF hW h
theorem ab_good_of {L : List Cond} (h : ∀ w ∈ L, w ∈ ab_gt) : GoodIn ab_gt L := fun w hw => ab_gt_good w (h w hw)
section ABR
variable {l : Launch} {dC : Nat → ClassId} {dI : Nat → Nat → Nat} {ad : Nat → Nat} {cA : Nat → ClassId}
theorem ab_env_at {s U : State} {H : Heap} {locs : List Loc} (hE : ab_Env dC dI ad cA s s.heap) (hS : va_S (ab_Ad ad) s.heap H locs) (hU : U.heap = H) (hW : s.WarmedH U.vm) : ab_Env dC dI ad cA U U.heap := by
  obtain ⟨hK, hN, hZ, hT⟩ := hE
  rw [hU]
  exact ⟨va_K.moved hW.alike hK, fun w hw => ab_nest_warm hW w hw (hN w hw), (hZ.kept (fun a h1 h2 => hS.2.1 a h1 h2)).moved hW.alike, (hT.kept (fun a h1 h2 => hS.2.1 a h1 h2)).moved hW.alike⟩
theorem ab_blind {av : List Value} {σ : ab_St} : FrameBlind (va_Pc av (ab_B dC dI ad cA σ)) := by
  intro a U g mk q
  obtain ⟨h0, ⟨hK, hN, hZ, hT⟩, hP, hD⟩ := q
  exact ⟨h0, ⟨va_K.moved (u := U) (U := U.calling g mk a) (Vm.Alike.refl U.vm) hK, fun w hw => va_Nw.same (ab_nest_tab w hw) (u := U) (U := U.calling g mk a) rfl (hN w hw), va_Z.moved (u := U) (U := U.calling g mk a) (Vm.Alike.refl U.vm) hZ, va_T.moved (u := U) (U := U.calling g mk a) (Vm.Alike.refl U.vm) hT⟩, hP, hD⟩
variable {p : Program} {e : Env} {R : Room} {s : State} {m : MethodId} {args : Array Value} {below : List Frame} {meth : Method} {c : Code} {H : Heap} {locs : List Loc} {Q : State → Prop}
theorem ab_call {a : Array Value} {r : Option Value} {σ : ab_St} {pc : Nat} {ls : Array Slot} {st0 rest : List Value} (hr : va_Run p l e R s m args below meth c H locs 0 0 0 0 (F0 m pc ls st0) rest (ab_Q dC dI ad cA r σ a) (ab_Ad ad)) (hS : va_S (ab_Ad ad) s.heap H locs)
    (kk : ∀ (H1 : Heap) (locs1 : List Loc), va_P (dC, dI) ab_classes (ab_w ad cA σ) H1 → va_D (ab_Ad ad) (ab_w ad cA σ) → va_S (ab_Ad ad) s.heap H1 locs1 → W p l e R s m args below meth c H1 locs1 0 0 Q (F0 m (pc + 3) ls ((r.map (ab_cv ad)).toList ++ rest))) : W p l e R s m args below meth c H locs 0 0 Q (F0 m pc ls st0) := by
  intro T hT X
  obtain ⟨v, st₀, t, T', L, h0, X', hL, e1, e2, ⟨⟨hv, hB⟩, hz, hk⟩, st⟩ := hr T hT X
  cases hv
  rw [h0] at hz hk
  obtain ⟨-, hP1, hD1⟩ := hB
  rw [← e1] at hP1
  obtain ⟨t2, a1, b1⟩ := kk T'.heap (locs ++ L) hP1 hD1
    ⟨Nat.le_trans hS.1 (by rw [e1]; exact hz), fun q h1 h2 => by rw [e1, hk q (Nat.lt_of_lt_of_le h1 hS.1) h2]; exact hS.2.1 q h1 h2, fun q hq => by
      rcases List.mem_append.mp hq with h | h
      · exact hS.2.2 q h
      · exact hL q h⟩ T' rfl X'
  exact ⟨t2, st t2 a1, b1⟩
set_option maxHeartbeats 4000000 in
theorem ab_sE {M d pc len : Nat} {i : Instr} {la : Array Slot} {st : List Value} {σ : ab_St} {r : Option Value} (hx : p.tables.exec = Jvm.exec) (hb : c.code = ab_C M) (hr : meth.sig.returnType = ab_R M) (hlocks : meth.locks = false) (hE : ab_Env dC dI ad cA s s.heap) (hP : va_P (dC, dI) ab_classes (ab_w ad cA σ) H) (hD : va_D (ab_Ad ad) (ab_w ad cA σ)) (hS : va_S (ab_Ad ad) s.heap H locs)
    (hdg : decode (ab_C M) pc = .ok (i, len)) (h : ab_E M i len st = some r) : W p l e R s m args below meth c H locs 0 0 (MQ below (ab_Q dC dI ad cA r σ) args s 0 0 (ab_Ad ad)) (F0 m pc la (st.map (ab_cv ad))) := by
  have hq : ∀ t : State, t.heap = H → s.WarmedH t.vm → ab_Q dC dI ad cA r σ args s (.returned (r.map (ab_cv ad))) t := fun t ht hW => ⟨⟨rfl, ab_env_at hE hS ht hW, by rw [ht]; exact hP, hD⟩, hS.F ht⟩
  unfold ab_E at h
  split at h
  · split at h
    next hc => cases h; exact W.iret hx hb (by rw [hr, hc]) hq hS.2.2 hdg hlocks
    next =>
      split at h
      next hc =>
        split at h
        next hv =>
          cases h
          exact W.zret hx hb (by rw [hr, hc]) (by rcases hv with rfl | rfl <;> decide) hq hS.2.2 hdg hlocks
        next => cases h
      next => cases h
  · split at h
    next hc => cases h; exact W.lret hx hb (by rw [hr, hc]) hq hS.2.2 hdg hlocks
    next => cases h
  · split at h
    next hc => cases h; exact W.vret hx hb (by rw [hr, hc]) hq hS.2.2 hdg hlocks
    next => cases h
  · cases h
end ABR
/-- what the fuel n is good for -/
def ab_Sound (l : Launch) (dC : Nat → ClassId) (dI : Nat → Nat → Nat) (ad : Nat → Nat) (cA : Nat → ClassId) (n : Nat) : Prop :=
  ∀ (d M pc : Nat) (ls : ab_Lo) (st : List Value) (σ : ab_St) (r : Option Value) (σ' : ab_St), ab_run n d M pc ls st σ = some (r, σ') → ab_ok M →
    ∀ (p : Program) (e : Env) (s : State) (m : MethodId) (args : Array Value) (below : List Frame) (meth : Method) (c : Code) (H : Heap) (locs : List Loc) (la : Array Slot),
      p.tables.exec = Jvm.exec → c.code = ab_C M → meth.sig.returnType = ab_R M → c.maxLocals = ab_L M → s.vm.findClass (ab_cn (ab_O M)) = some m.cls → (∀ w ∈ ab_gt, w.before args s = true) → meth.locks = false →
      ab_Env dC dI ad cA s s.heap → va_P (dC, dI) ab_classes (ab_w ad cA σ) H → va_D (ab_Ad ad) (ab_w ad cA σ) → va_S (ab_Ad ad) s.heap H locs → lv_has la (ab_L M) (ab_lo ad ls) → ls.length = ab_L M →
      W p l e (ab_rm d) s m args below meth c H locs 0 0 (MQ below (ab_Q dC dI ad cA r σ') args s 0 0 (ab_Ad ad)) (F0 m pc la (st.map (ab_cv ad)))
theorem ab_met_of {l : Launch} {dC : Nat → ClassId} {dI : Nat → Nat → Nat} {ad : Nat → Nat} {cA : Nat → ClassId} {n : Nat} (hn : ab_Sound l dC dI ad cA n) {d M : Nat} {as : List Value} {σ : ab_St} {r : Option Value} {σ' : ab_St} (h : ab_run n d M 0 (ab_ent (ab_L M) as) [] σ = some (r, σ')) (hM : ab_ok M) (hlen : (ab_sl as).length ≤ ab_L M) :
    Met l (ab_N M) (ab_ws M) (ab_rm d) (va_Pc (as.map (ab_cv ad)) (ab_B dC dI ad cA σ)) (ab_Q dC dI ad cA r σ') 0 0 (ab_Ad ad) := by
  obtain ⟨m1, -, -, m4⟩ := ab_m_in hM.1 hM.2
  refine Met.ofW (cc := ab_C M) (maxL := ab_L M) (ret := ab_R M) m4 rfl ?_
  intro p e s m args below meth c s₁ B hml hv
  obtain ⟨rfl, hE, hP, hD⟩ := hv
  have hts := atoms_spec (ws := ab_ws M) B.pre
  have hown : s.vm.findClass (ab_N M).cls = some m.cls := findClass_of_methodNamed B.named
  rw [lg_entry_eq]
  exact hn d M 0 _ [] σ r σ' h hM p e s m _ below meth c s.heap [] _ B.exec B.bytes B.returns hml (by rw [m1]; exact hown) (fun w hw => hts w (List.mem_cons_of_mem _ hw)) B.notSynchronized hE hP hD va_S.rf (ab_ent_has ad as hlen) (ab_ent_len hlen)
theorem ab_rm_room {d y : Nat} (hy : ab_L y ≤ 13) : (ab_rm d).frames + 1 ≤ (ab_rm (d + 1)).frames ∧ 8 + (ab_L y + 11) + (ab_rm d).locals ≤ (ab_rm (d + 1)).locals := by
  refine ⟨Nat.le_refl _, ?_⟩
  show 8 + (ab_L y + 11) + 36 * d ≤ 36 * (d + 1)
  omega
theorem ab_ws_sub {y : Nat} (hy : y < 149) : ∀ w ∈ ab_ws y, w ∈ ab_gt := by
  intro w hw
  rcases List.mem_cons.mp hw with rfl | hw
  · exact ab_code_in hy
  · exact hw
set_option maxHeartbeats 8000000 in
/-- a call -/
theorem ab_sK {l : Launch} {dC : Nat → ClassId} {dI : Nat → Nat → Nat} {ad : Nat → Nat} {cA : Nat → ClassId} {n : Nat} (hn : ab_Sound l dC dI ad cA n) {p : Program} {e : Env} {s : State} {m : MethodId} {args : Array Value} {below : List Frame} {meth : Method} {c : Code} {H : Heap} {locs : List Loc} {Q : State → Prop}
    {M d pc len : Nat} {i : Instr} {la : Array Slot} {st : List Value} {σ σ1 : ab_St} {r : Option Value} {q : Nat × List Value × List Value} (hx : p.tables.exec = Jvm.exec) (hb : c.code = ab_C M) (hml : c.maxLocals = ab_L M) (hla : la.size = ab_L M) (hown : s.vm.findClass (ab_cn (ab_O M)) = some m.cls) (hts : ∀ w ∈ ab_gt, w.before args s = true) (hE : ab_Env dC dI ad cA s s.heap) (hP : va_P (dC, dI) ab_classes (ab_w ad cA σ) H) (hD : va_D (ab_Ad ad) (ab_w ad cA σ)) (hS : va_S (ab_Ad ad) s.heap H locs)
    (hdg : decode (ab_C M) pc = .ok (i, len)) (h : ab_K M i len st = some q) (hrun : ab_run n d q.1 0 (ab_ent (ab_L q.1) q.2.1) [] σ = some (r, σ1))
    (kk : ∀ (H1 : Heap) (locs1 : List Loc), va_P (dC, dI) ab_classes (ab_w ad cA σ1) H1 → va_D (ab_Ad ad) (ab_w ad cA σ1) → va_S (ab_Ad ad) s.heap H1 locs1 → W p l e (ab_rm (d + 1)) s m args below meth c H1 locs1 0 0 Q (F0 m (pc + 3) la ((r.toList ++ q.2.2).map (ab_cv ad)))) : W p l e (ab_rm (d + 1)) s m args below meth c H locs 0 0 Q (F0 m pc la (st.map (ab_cv ad))) := by
  have kk' : ∀ (H1 : Heap) (locs1 : List Loc), va_P (dC, dI) ab_classes (ab_w ad cA σ1) H1 → va_D (ab_Ad ad) (ab_w ad cA σ1) → va_S (ab_Ad ad) s.heap H1 locs1 → W p l e (ab_rm (d + 1)) s m args below meth c H1 locs1 0 0 Q (F0 m (pc + 3) la ((r.map (ab_cv ad)).toList ++ q.2.2.map (ab_cv ad))) := by
    intro H1 locs1 a1 a2 a3
    have := kk H1 locs1 a1 a2 a3
    rw [List.map_append] at this
    cases r <;> exact this
  have hpre : ∀ (as : List Value) (U : State), U.heap = H → s.WarmedH U.vm → va_Pc as (ab_B dC dI ad cA σ) as.toArray U := fun as U hU hW => ⟨rfl, ab_env_at hE hS hU hW, by rw [hU]; exact hP, hD⟩
  unfold ab_K at h
  split at h
  next idx =>
    obtain ⟨⟨y, na, kd⟩, h1, h2⟩ := Option.bind_eq_some_iff.mp h
    obtain ⟨g1, g2, g3, g4, g5, g6, g7⟩ := ab_ml_in h1
    simp only at g1 g2 g3 g4 g5 g6 g7 h2
    split at h2
    next hc =>
      cases h2
      obtain ⟨c1, c2, c3, c4⟩ := hc
      obtain ⟨m1, m2, m3, m4⟩ := ab_m_in g1 g2
      have hM := ab_met_of hn (as := (st.take na).reverse) hrun ⟨g1, g2⟩ c4
      have hst : st.map (ab_cv ad) = ((st.take na).reverse.map (ab_cv ad)).reverse ++ (st.drop na).map (ab_cv ad) := by
        rw [← List.map_reverse, List.reverse_reverse, ← List.map_append, List.take_append_drop]
      have hlen : ((st.take na).reverse.map (ab_cv ad)).length = na := by
        rw [List.length_map, List.length_reverse, List.length_take]; omega
      rcases c1 with rfl | rfl
      · obtain ⟨w1, w2⟩ := g5 rfl
        have hG : GoodIn ab_gt (va_wsS (ab_cn (ab_O M)) idx (ab_N y) (ab_ws y)) := ab_good_of (by
          intro w hw
          rcases List.mem_append.mp hw with hw | hw
          · simp only [List.mem_cons, List.not_mem_nil, or_false] at hw
            rcases hw with rfl | rfl | rfl
            · exact w1
            · exact w2
            · exact g4
          · exact ab_ws_sub g1 w hw)
        exact ab_call (va_runS (As := (st.take na).reverse.map (ab_cv ad)) (rest := (st.drop na).map (ab_cv ad)) ⟨hx, hb, hml, hown, hts⟩ hM (va_cwS na hts hG rfl rfl rfl ⟨m3.1, m3.2, g3⟩ (ab_rm_room m2)) ⟨ab_blind, hpre _⟩ rfl hlen hla hst (lv_room (by rw [ab_sum]; exact c3)) hdg ⟨Nat.le_refl 0, Nat.le_refl 0⟩) hS kk'
      · obtain ⟨w1, w2⟩ := g7 rfl
        exact ab_call (va_runSN (As := (st.take na).reverse.map (ab_cv ad)) (rest := (st.drop na).map (ab_cv ad)) ⟨hx, hb, hml, hown, hts⟩ hM ⟨va_cnB na hts (ab_good_of (ab_ws_sub g1)) rfl rfl rfl (hE.2.1 _ w1) (hts _ g4) ⟨m3.1, m3.2, g3⟩ (ab_rm_room m2), hts _ w2, trivial⟩ ⟨ab_blind, hpre _⟩ rfl hlen hla hst (lv_room (by rw [ab_sum]; exact c3)) hdg ⟨Nat.le_refl 0, Nat.le_refl 0⟩) hS kk'
    next => cases h2
  next idx =>
    obtain ⟨⟨y, na, kd⟩, h1, h2⟩ := Option.bind_eq_some_iff.mp h
    obtain ⟨g1, g2, g3, g4, g5, g6, g7⟩ := ab_ml_in h1
    simp only at g1 g2 g3 g4 g5 g6 g7 h2
    split at h2
    next hc =>
      cases h2
      obtain ⟨rfl, c2, c3, c4, c5⟩ := hc
      obtain ⟨m1, m2, m3, m4⟩ := ab_m_in g1 g2
      have hM := ab_met_of hn (as := (st.take (na + 1)).reverse) hrun ⟨g1, g2⟩ c4
      obtain ⟨w1, w2, w3, ⟨T, w4⟩, w5⟩ := g6 rfl
      cases has : (st.take (na + 1)).reverse with
      | nil => rw [has] at c5; cases c5
      | cons v as =>
        rw [has] at c5 hM
        cases v with
        | ref b =>
          have hbk : ab_k b = ab_O y := by simpa [ab_recvB] using c5
          have hst : st.map (ab_cv ad) = (as.map (ab_cv ad)).reverse ++ .ref (ad b) :: (st.drop (na + 1)).map (ab_cv ad) := by
            have h5 : st.take (na + 1) = as.reverse ++ [.ref b] := by rw [← List.reverse_reverse (st.take (na + 1)), has, List.reverse_cons]
            have h6 : st = as.reverse ++ [.ref b] ++ st.drop (na + 1) := by rw [← h5, List.take_append_drop]
            conv => lhs; rw [h6]
            simp [ab_cv]
          have hlen : (as.map (ab_cv ad)).length = na := by
            have h5 : (st.take (na + 1)).reverse.length = na + 1 := by rw [List.length_reverse, List.length_take]; omega
            rw [has, List.length_cons] at h5
            rw [List.length_map]
            omega
          have hG : GoodIn ab_gt (wsV (ab_cn (ab_O M)) idx (ab_N y).cls (ab_N y) (ab_ws y)) := ab_good_of (by
            intro w hw
            rcases List.mem_append.mp hw with hw | hw
            · simp only [List.mem_cons, List.not_mem_nil, or_false] at hw
              rcases hw with rfl | rfl | rfl | rfl
              · exact w1
              · exact w2
              · exact w3
              · exact g4
            · exact ab_ws_sub g1 w hw)
          exact ab_call (va_runV (b := ad b) (As := as.map (ab_cv ad)) (rest := (st.drop (na + 1)).map (ab_cv ad)) ⟨hx, hb, hml, hown, hts⟩ hM (cwV na hts hG rfl rfl rfl ⟨rfl, m3.1, m3.2, g3⟩ (ab_rm_room m2)) ⟨ab_blind, va_recv hE.1 hP w4 (ab_at_o ad cA σ hbk w5), hpre (.ref (ad b) :: as.map (ab_cv ad))⟩ rfl hlen hla hst (lv_room (by rw [ab_sum]; exact c3)) hdg ⟨Nat.le_refl 0, Nat.le_refl 0⟩) hS kk'
        | _ => cases c5
    next => cases h2
  · cases h
set_option maxHeartbeats 8000000 in
theorem ab_sound (l : Launch) (dC : Nat → ClassId) (dI : Nat → Nat → Nat) (ad : Nat → Nat) (cA : Nat → ClassId) : ∀ n, ab_Sound l dC dI ad cA n := by
  intro n
  induction n with
  | zero => intro d M pc ls st σ r σ' h; cases h
  | succ n ih =>
    intro d M pc ls st σ r σ' h hM p e s m args below meth c H locs la hx hb hr hml hown hts hlocks hE hP hD hS hl hn
    unfold ab_run at h
    split at h
    next => cases h
    next i len hdg =>
      split at h
      next st' hs => exact ab_sA1 hx hb hown hts hl hdg hs (ih d M (pc + len) ls st' σ r σ' h hM p e s m args below meth c H locs la hx hb hr hml hown hts hlocks hE hP hD hS hl hn)
      next =>
      split at h
      next st' hs => exact ab_sA2 hx hb hdg hs (ih d M (pc + len) ls st' σ r σ' h hM p e s m args below meth c H locs la hx hb hr hml hown hts hlocks hE hP hD hS hl hn)
      next =>
      split at h
      next st' hs => exact ab_sX hx hb (by rw [hml]; exact hl.1.symm) hown hts hdg hs (ih d M (pc + len) ls st' σ r σ' h hM p e s m args below meth c H locs la hx hb hr hml hown hts hlocks hE hP hD hS hl hn)
      next =>
      split at h
      next q hs => exact ab_sS hx hb hl hn hdg hs (fun la' hl' hn' => ih d M (pc + len) q.1 q.2 σ r σ' h hM p e s m args below meth c H locs la' hx hb hr hml hown hts hlocks hE hP hD hS hl' hn')
      next =>
      split at h
      next q hs => exact ab_sJ hx hb hdg hs (ih d M q.1 ls q.2 σ r σ' h hM p e s m args below meth c H locs la hx hb hr hml hown hts hlocks hE hP hD hS hl hn)
      next =>
      split at h
      next q hs => exact ab_sH hx hb (by rw [hml]; exact hl.1.symm) hown hts hE hP hD hS hdg hs (fun H1 locs1 a1 a2 a3 => ih d M (pc + len) ls q.1 q.2 r σ' h hM p e s m args below meth c H1 locs1 la hx hb hr hml hown hts hlocks hE a1 a2 a3 hl hn)
      next =>
      split at h
      next r1 hs => cases h; exact ab_sE (d := d) hx hb hr hlocks hE hP hD hS hdg hs
      next =>
      split at h
      next q d' hs _ _ =>
        split at h
        next w hw => exact ab_sK ih hx hb hml hl.1 hown hts hE hP hD hS hdg hs (r := w.1) (σ1 := w.2) hw (fun H1 locs1 a1 a2 a3 => ih (d' + 1) M (pc + 3) ls (w.1.toList ++ q.2.2) w.2 r σ' h hM p e s m args below meth c H1 locs1 la hx hb hr hml hown hts hlocks hE a1 a2 a3 hl hn)
        next => cases h
      next => cases h
/-- the contract of a method, out of its run -/
theorem ab_met {l : Launch} {dC : Nat → ClassId} {dI : Nat → Nat → Nat} {ad : Nat → Nat} {cA : Nat → ClassId} {n d M : Nat} {as : List Value} {σ : ab_St} {r : Option Value} {σ' : ab_St} (h : ab_run n d M 0 (ab_ent (ab_L M) as) [] σ = some (r, σ')) (hM : ab_ok M) (hlen : (ab_sl as).length ≤ ab_L M) :
    Met l (ab_N M) (ab_ws M) (ab_rm d) (va_Pc (as.map (ab_cv ad)) (ab_B dC dI ad cA σ)) (ab_Q dC dI ad cA r σ') 0 0 (ab_Ad ad) := ab_met_of (ab_sound l dC dI ad cA n) h hM hlen
