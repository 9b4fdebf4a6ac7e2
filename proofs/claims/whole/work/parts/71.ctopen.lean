/-! A CONSTRUCTOR'S BEGINNING AND END -/
theorem ct_objw : Cond.code Lib.objectInit ⟨#[0xb1]⟩ 1 none ∈ ab_gt := ab_code_in (M := 1) (by decide)
theorem ct_obji : Cond.instanceMethod Lib.objectInit ∈ ab_gt := ab_gt_in (by decide +kernel) rfl
set_option maxHeartbeats 4000000 in
theorem ct_open {l : Launch} {dC : Nat → ClassId} {dI : Nat → Nat → Nat} {cA : Nat → ClassId} {M ci d mc ms idx : Nat} {Wf : Nat → (Nat → Nat) → va_W} (hok : ab_ok M) (i0 : decode (ab_C M) 0 = .ok (.aload_n 0, 1)) (i1 : decode (ab_C M) 1 = .ok (.invokespecial idx, 3)) (hlk : Cond.methodLink (ab_cn (ab_O M)) idx Lib.objectInit ∈ ab_gt) (hname : (ab_N M).name = "<init>") (hret : ab_R M = none) (hL : 1 ≤ ab_L M) (hd : 1 ≤ d)
    (body : ∀ (p : Program) (e : Env) (s : State) (m : MethodId) (below : List Frame) (meth : Method) (c : Code) (ls : Array Slot) (h0 : Nat) (A : Nat → Prop) (Q : State → Prop), ct_At dC dI cA A (ab_C M) (ab_cn (ab_O M)) (ab_L M) p s m #[Value.ref h0] c → meth.name = "<init>" → ct_Wd dC dI A s (ct_w0 h0 ci) s.heap [] → lv_has ls (ab_L M) [(0, .ref h0)] →
      (∀ (pc : Nat) (ls' : Array Slot) (q : Nat → Nat) (H : Heap) (locs : List Loc), ct_Wd dC dI A s (Wf h0 q) H locs → decode (ab_C M) pc = .ok (.return_, 1) → W p l e (ct_rm d mc ms) s m #[Value.ref h0] below meth c H locs mc ms Q (F0 m pc ls' [])) →
      W p l e (ct_rm d mc ms) s m #[Value.ref h0] below meth c s.heap [] 0 0 Q (F0 m 4 ls [])) : ct_Met l dC dI cA M ci d mc ms Wf := by
  intro h0 sz
  obtain ⟨m1, m2, m3, m4⟩ := ab_m_in hok.1 hok.2
  refine Met.ofW (cc := ab_C M) (maxL := ab_L M) (ret := ab_R M) m4 rfl ?_
  intro p e s m args below meth c s₁ B hml hv
  obtain ⟨rfl, hsz, hP, hE, hD0⟩ := hv
  have hts := atoms_spec (ws := ab_ws M) B.pre
  have hown : s.vm.findClass (ab_N M).cls = some m.cls := findClass_of_methodNamed B.named
  have hin : meth.name = "<init>" := ((name_of_methodNamed B.named B.method).1).trans hname
  have hx := B.exec
  have hb := B.bytes
  have hr := B.returns
  rw [hret] at hr
  have hlocks := B.notSynchronized
  subst hsz
  have hD := hD0.self (sz := s.heap.size)
  have hlen : (lg_sl [Value.ref h0]).length ≤ ab_L M := hL
  have hl := lv_entry [Value.ref h0] (n := ab_L M) hlen
  rw [lg_entry_eq]
  generalize (lg_sl ([.ref h0]) ++ List.replicate (ab_L M - (lg_sl ([.ref h0])).length) Slot.unset).toArray = ls at hl ⊢
  have hl : lv_has ls (ab_L M) [(0, .ref h0)] := hl
  rw [← m1] at hown
  have hts2 : ∀ w ∈ ab_gt, w.before #[Value.ref h0] s = true := fun w hw => hts w (List.mem_cons_of_mem _ hw)
  refine lv_aload_n hx hb i0 rfl (lv_at hl 0 rfl) ?_
  refine W.objInit hx hb hown (hts2 _ hlk) (hts2 _ ct_obji) (hts2 _ ct_objw) rfl (by rw [hml]; exact hl.1) rfl i1 hd (Nat.le_trans (show 2 * (F0 m (0 + 1) ls [Value.ref h0]).monitorRoom + (List.map (fun v : Value => v.category) []).sum + 12 ≤ 36 * 1 from Nat.le_of_ble_eq_true rfl) (Nat.mul_le_mul_left 36 hd)) ?_
  refine W.eq (g2 := F0 m 4 ls []) rfl ?_
  refine body p e s m below meth c ls h0 (va_A (ct_w0 h0 ci) s.heap.size) _ ⟨hx, hb, hml, hown, hts2, hE, fun q h => Or.inr h⟩ hin ⟨hP, hD, va_S.rf⟩ hl ?_
  intro pc ls' q H locs hWd hdg
  exact W.vret hx hb hr (fun t ht hW => ⟨⟨q, rfl, trivial, by rw [ht]; exact hWd.1, hWd.2.1⟩, hWd.2.2.F ht⟩) hWd.2.2.2.2 hdg
