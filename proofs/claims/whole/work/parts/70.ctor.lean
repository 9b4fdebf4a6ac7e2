/-! WHAT CONSTRUCTORS DO: the world grows at its end -/
def ct_nest : List Cond := [.methodLinkNest "SaidLeast" 11 (ab_N 2) "SaidLeast", .methodLinkNest "SaidLeast" 18 (ab_N 3) "SaidLeast", .methodLinkNest "SaidLeast" 25 (ab_N 4) "SaidLeast", .methodLinkNest "SaidLeast" 32 (ab_N 5) "SaidLeast", .methodLinkNest "SaidLeast" 42 (ab_N 6) "SaidLeast", .methodLinkNest "SaidLeast" 53 (ab_N 7) "SaidLeast", .methodLinkNest "SaidLeast" 60 (ab_N 9) "SaidLeast", .methodLinkNest "SaidLeast" 67 (ab_N 10) "SaidLeast",
  .methodLinkNest "SaidLeast$Reader" 11 (ab_N 4) "SaidLeast", .methodLinkNest "SaidLeast$Reader" 20 (ab_N 5) "SaidLeast", .methodLinkNest "SaidLeast$Ahead" 9 (ab_N 5) "SaidLeast", .methodLinkNest "SaidLeast$Orders" 11 (ab_N 8) "SaidLeast", .methodLinkNest "SaidLeast$Contest" 11 (ab_N 8) "SaidLeast", .methodLinkNest "SaidLeast$Guesses" 17 (ab_N 5) "SaidLeast"]
theorem ct_nest_tab : ∀ w ∈ ct_nest, w.onTables = true := by decide +kernel
theorem ct_nest_in : ∀ w ∈ ct_nest, w ∈ lw_tbl := by decide +kernel
theorem ct_nest_warm {s U : State} (hW : s.WarmedH U.vm) : ∀ w ∈ ct_nest, va_Nw w s → va_Nw w U := by
  intro w hw
  unfold ct_nest at hw
  simp only [List.mem_cons, List.not_mem_nil, or_false] at hw
  rcases hw with rfl | rfl | rfl | rfl | rfl | rfl | rfl | rfl | rfl | rfl | rfl | rfl | rfl | rfl
  all_goals exact fun h => va_Nw.warmM hW h
/-- the tables, as a constructor needs them -/
def ct_Env (dC : Nat → ClassId) (dI : Nat → Nat → Nat) (cA : Nat → ClassId) (U : State) : Prop := va_K (dC, dI) ab_classes (ab_tys cA) U ∧ (∀ w ∈ ct_nest, va_Nw w U) ∧ va_AO "SaidLeast$State" U
theorem ct_Env.warm {dC : Nat → ClassId} {dI : Nat → Nat → Nat} {cA : Nat → ClassId} {s U : State} (hW : s.WarmedH U.vm) (h : ct_Env dC dI cA s) : ct_Env dC dI cA U :=
  ⟨va_K.moved hW.alike h.1, fun w hw => ct_nest_warm hW w hw (h.2.1 w hw), h.2.2.moved hW.alike⟩
/-- the fields of a new object -/
def ct_f (ci : Nat) : List Value := (ab_fkT.getD ci []).map (fun k => if k = 0 then .int 0 else if k = 1 then .long 0 else .null)
def ct_rm (d mc ms : Nat) : Room := { frames := d, cells := mc, slots := ms, locals := 36 * d }
def ct_B (dC : Nat → ClassId) (dI : Nat → Nat → Nat) (cA : Nat → ClassId) (sz : Nat) (ws : va_W) (U : State) : Prop := U.heap.size = sz ∧ va_P (dC, dI) ab_classes ws U.heap ∧ ct_Env dC dI cA U ∧ va_D (fun _ => True) ws
abbrev ct_w0 (h0 ci : Nat) : va_W := [(h0, .inr (ci, ct_f ci))]
abbrev ct_Q (dC : Nat → ClassId) (dI : Nat → Nat → Nat) (ci : Nat) (Wf : Nat → (Nat → Nat) → va_W) (h0 sz : Nat) : Array Value → State → Outcome → State → Prop :=
  va_Qv (fun _ : Nat → Nat => True) (fun q t => va_P (dC, dI) ab_classes (Wf h0 q) t.heap ∧ va_D (va_A (ct_w0 h0 ci) sz) (Wf h0 q)) (va_A (ct_w0 h0 ci) sz)
/-- a constructor's contract: its object, new, becomes the world Wf -/
def ct_Met (l : Launch) (dC : Nat → ClassId) (dI : Nat → Nat → Nat) (cA : Nat → ClassId) (M ci d mc ms : Nat) (Wf : Nat → (Nat → Nat) → va_W) : Prop :=
  ∀ h0 sz : Nat, Met l (ab_N M) (ab_ws M) (ct_rm d mc ms) (va_Pc [.ref h0] (ct_B dC dI cA sz (ct_w0 h0 ci))) (ct_Q dC dI ci Wf h0 sz) mc ms (va_A (ct_w0 h0 ci) sz)
theorem ct_blind {dC : Nat → ClassId} {dI : Nat → Nat → Nat} {cA : Nat → ClassId} {av : List Value} {sz : Nat} {ws : va_W} : FrameBlind (va_Pc av (ct_B dC dI cA sz ws)) := by
  intro a U g mk q
  obtain ⟨h0, h1, hP, ⟨hK, hN, hO⟩, hD⟩ := q
  exact ⟨h0, h1, hP, ⟨va_K.moved (u := U) (U := U.calling g mk a) (Vm.Alike.refl U.vm) hK, fun w hw => va_Nw.same (ct_nest_tab w hw) (u := U) (U := U.calling g mk a) rfl (hN w hw), va_AO.moved (u := U) (U := U.calling g mk a) (Vm.Alike.refl U.vm) hO⟩, hD⟩
theorem ct_f_len (ci : Nat) : (ct_f ci).length = ab_nF ci := by
  unfold ct_f ab_nF
  rw [List.length_map]
def ct_ok1 (ci : Nat) : Bool := match ab_classes[ci]? with
  | some q => decide (q.2.2 = ab_nF ci) && (List.range q.2.2).all (fun j => decide ((parseFieldDescriptor (q.2.1 j).2.2.1).map defaultValue = some (vp_V (ct_f ci) j)))
  | none => true
theorem ct_ok2 : ∀ ci, ci < 11 → ct_ok1 ci = true := by decide +kernel
theorem ct_f_ok (ci : Nat) (hci : ci < 11) (q : vw_C) (hq : ab_classes[ci]? = some q) : q.2.2 = ab_nF ci ∧ ∀ j, j < q.2.2 → (parseFieldDescriptor (q.2.1 j).2.2.1).map defaultValue = some (vp_V (ct_f ci) j) := by
  have h := ct_ok2 ci hci
  unfold ct_ok1 at h
  rw [hq] at h
  simp only [Bool.and_eq_true, decide_eq_true_eq, List.all_eq_true, List.mem_range] at h
  exact h
theorem ct_nd1 : ∀ (n a : Nat), va_nd (List.range' a n) = true := by
  intro n
  induction n with
  | zero => intro a; rfl
  | succ n ih =>
    intro a
    rw [List.range'_succ]
    simp only [va_nd, Bool.and_eq_true, decide_eq_true_eq]
    refine ⟨fun h => ?_, ih (a + 1)⟩
    have := List.mem_range'_1.mp h
    omega
theorem ct_nd (n : Nat) : va_nd (List.range n) = true := by
  rw [List.range_eq_range']
  exact ct_nd1 n 0
section CT
variable {p : Program} {l : Launch} {e : Env} {R : Room} {s : State} {m : MethodId} {args : Array Value} {below : List Frame} {meth : Method} {c : Code} {H : Heap} {locs : List Loc} {cells slots : Nat} {Q : State → Prop}
variable {dC : Nat → ClassId} {dI : Nat → Nat → Nat} {cA : Nat → ClassId} {A : Nat → Prop} {cc : ByteArray} {own : String} {pc nL : Nat} {ls : Array Slot} {rest : List Value} {ws : va_W}
/-- what a walk of a constructor stands on -/
def ct_At (dC : Nat → ClassId) (dI : Nat → Nat → Nat) (cA : Nat → ClassId) (A : Nat → Prop) (cc : ByteArray) (own : String) (nL : Nat) (p : Program) (s : State) (m : MethodId) (args : Array Value) (c : Code) : Prop :=
  p.tables.exec = Jvm.exec ∧ c.code = cc ∧ c.maxLocals = nL ∧ s.vm.findClass own = some m.cls ∧ (∀ w ∈ ab_gt, w.before args s = true) ∧ ct_Env dC dI cA s ∧ ∀ q, s.heap.size ≤ q → A q
/-- the world between two instructions -/
def ct_Wd (dC : Nat → ClassId) (dI : Nat → Nat → Nat) (A : Nat → Prop) (s : State) (ws : va_W) (H : Heap) (locs : List Loc) : Prop := va_P (dC, dI) ab_classes ws H ∧ va_D A ws ∧ va_S A s.heap H locs
/-- new, dup, a call of the constructor -/
theorem ct_mk {ci mc ms idx : Nat} {C : String} {T : u_T} {Wf : Nat → (Nat → Nat) → va_W} (X : ct_At dC dI cA A cc own nL p s m args c) (hci : ci < 11) (hc : ab_classes[ci]? = some (C, T, ab_nF ci)) (hl1 : Cond.classLink own idx C ∈ ab_gt) (hl2 : Cond.instantiable C (ab_nF ci) ∈ ab_gt) (hl3 : Cond.initialized C ∈ ab_gt)
    (hWd : ct_Wd dC dI A s ws H locs) (hcells : cells + 1 ≤ R.cells) (hslots : slots + ab_nF ci ≤ R.slots)
    (d1 : decode cc pc = .ok (.new idx, 3)) (d2 : decode cc (pc + 3) = .ok (.dup, 1))
    (hcall : ∀ (b : Nat) (H1 : Heap) (locs1 : List Loc), PreS s H1 (va_Pc [.ref b] (ct_B dC dI cA H1.size (ct_w0 b ci))) [.ref b] → va_Run p l e R s m args below meth c H1 locs1 (cells + 1) (slots + ab_nF ci) mc ms (F0 m (pc + 4) ls (.ref b :: .ref b :: rest)) (.ref b :: rest) (ct_Q dC dI ci Wf b H1.size [.ref b].toArray) (va_A (ct_w0 b ci) H1.size))
    (kk : ∀ (q : Nat) (qf : Nat → Nat) (H1 : Heap) (locs1 : List Loc), ct_Wd dC dI A s (ws ++ Wf q qf) H1 locs1 → W p l e R s m args below meth c H1 locs1 (cells + 1 + mc) (slots + ab_nF ci + ms) Q (F0 m (pc + 7) ls (.ref q :: rest))) : W p l e R s m args below meth c H locs cells slots Q (F0 m pc ls rest) := by
  obtain ⟨hx, hb, hml, hown, hts, hE, hA⟩ := X
  obtain ⟨hP, hD, hS⟩ := hWd
  obtain ⟨w1, w2, ty0, w3⟩ := ab_cls hc
  obtain ⟨-, w4⟩ := ct_f_ok ci hci _ hc
  refine va_new (ci := ci) (fs := ct_f ci) (C := C) (T := T) (N := ab_nF ci) hx hb hts w1 ty0 w3 hown (hts _ hl1) (hts _ hl2) (hts _ hl3) hE.1 hP hD hS hA hc (fun j hj => ?_) hcells hslots d1 (fun b H1 hP hD hS => ?_)
  · have h1 := w4 j hj
    have h2 := w3 j hj
    simp only at h1
    rw [h2] at h1
    exact Option.some.inj h1
  refine lv_dup hx hb d2 rfl ?_
  have hlen : ((ws ++ [(b, .inr (ci, ct_f ci))] : va_W))[ws.length]? = some (b, .inr (ci, ct_f ci)) := by simp
  have hC : [ws.length].map (fun i => ((ws ++ [(b, .inr (ci, ct_f ci))] : va_W))[i]?) = (ct_w0 b ci).map some := by
    simp only [List.map_cons, List.map_nil]
    rw [hlen]
  have hR : (List.range ws.length).map (fun i => ((ws ++ [(b, .inr (ci, ct_f ci))] : va_W))[i]?) = ws.map some := by
    apply List.ext_getElem?
    intro j
    rw [List.getElem?_map, List.getElem?_map]
    by_cases hj : j < ws.length
    · rw [List.getElem?_range hj]
      show some ((ws ++ [(b, .inr (ci, ct_f ci))] : va_W)[j]?) = (ws[j]?).map some
      rw [List.getElem?_append_left hj, List.getElem?_eq_getElem hj]
      rfl
    · rw [List.getElem?_eq_none (by rw [List.length_range]; omega), List.getElem?_eq_none (by omega)]
      rfl
  have hPc : va_P (dC, dI) ab_classes (ct_w0 b ci) H1 := fun k q hq => by
    have hz : k < 1 := (List.getElem?_eq_some_iff.mp hq).1
    rw [show k = 0 by omega] at hq
    cases hq
    exact hP ws.length _ hlen
  have hDc : va_D (fun _ => True) (ct_w0 b ci) := ⟨fun i j x y hi hj _ => by
    have h1 : i < 1 := (List.getElem?_eq_some_iff.mp hi).1
    have h2 : j < 1 := (List.getElem?_eq_some_iff.mp hj).1
    omega, fun _ _ _ => trivial⟩
  have hF := va_free (wc := ct_w0 b ci) hD hS hA [ws.length] hC
  refine va_callv (hcall b H1 locs ⟨ct_blind, fun U hU hW => ⟨rfl, by rw [hU], by rw [hU]; exact hPc, hE.warm hW, hDc⟩⟩) hS (fun q _ h => hF q h) hF (fun u t H2 locs2 ht hvm _ hB hsz hk hS2 => ?_)
  obtain ⟨hP1, hD1⟩ := hB
  rw [ht] at hP1
  obtain ⟨hP2, hD2⟩ := va_join (wr := ws) (w1 := Wf b u) hP hD [ws.length] (List.range ws.length) hC hR (ct_nd ws.length) (fun i hi => by
      have := List.mem_range.mp hi
      simp only [List.mem_cons, List.not_mem_nil, or_false]
      omega) hk hF hP1 hD1
  exact kk b u H2 locs2 ⟨hP2, hD2, hS2⟩
/-- the call of a private constructor, by a nest mate -/
theorem ct_callN {M' ci d mc ms jdx : Nat} {Wf : Nat → (Nat → Nat) → va_W} (X : ct_At dC dI cA A cc own nL p s m args c) (hls : ls.size = nL) (hM : ct_Met l dC dI cA M' ci d mc ms Wf) (hlk : Cond.methodLinkNest own jdx (ab_N M') "SaidLeast" ∈ ct_nest) (hok : M' < 149 ∧ M' ≠ 1 ∧ M' ≠ 56 ∧ M' ≠ 90) (hin : Cond.instanceMethod (ab_N M') ∈ ab_gt) (hini : Cond.initialized (ab_N M').cls ∈ ab_gt) (hname : (ab_N M').name = "<init>") (hdesc : (parseMethodDescriptor (ab_N M').desc).map (fun d => d.parameters.length) = some 0) (hret : ab_R M' = none)
    (hR : d + 1 ≤ R.frames ∧ 8 + (ab_L M' + 11) + 36 * d ≤ R.locals) (hrest : ((Value.ref 0 :: rest).map fun v => v.category).sum ≤ 8) (hdg : decode cc pc = .ok (.invokespecial jdx, 3)) (hf : cells + mc ≤ R.cells ∧ slots + ms ≤ R.slots)
    (b : Nat) (H1 : Heap) (locs1 : List Loc) (hp : PreS s H1 (va_Pc [.ref b] (ct_B dC dI cA H1.size (ct_w0 b ci))) [.ref b]) :
    va_Run p l e R s m args below meth c H1 locs1 cells slots mc ms (F0 m pc ls (.ref b :: .ref b :: rest)) (.ref b :: rest) (ct_Q dC dI ci Wf b H1.size [.ref b].toArray) (va_A (ct_w0 b ci) H1.size) := by
  obtain ⟨hx, hb, hml, hown, hts, hE, hA⟩ := X
  obtain ⟨m1, m2, m3, m4⟩ := ab_m_in hok.1 hok.2
  exact va_runIN (As := []) (rest := .ref b :: rest) ⟨hx, hb, hml, hown, hts⟩ (hM b H1.size) ⟨va_cnB 0 hts (ab_good_of (ab_ws_sub hok.1)) (by unfold ab_ws; rw [hret]) rfl rfl (hE.2.1 _ hlk) (hts _ hini) ⟨m3.1, m3.2, hdesc⟩ hR, hname, hts _ hin⟩ hp rfl rfl hls rfl (lv_room hrest) hdg hf
/-- the call of a public constructor -/
theorem ct_callP {M' ci d mc ms jdx : Nat} {Wf : Nat → (Nat → Nat) → va_W} (X : ct_At dC dI cA A cc own nL p s m args c) (hls : ls.size = nL) (hM : ct_Met l dC dI cA M' ci d mc ms Wf) (hlk : Cond.methodLink own jdx (ab_N M') ∈ ab_gt) (hok : M' < 149 ∧ M' ≠ 1 ∧ M' ≠ 56 ∧ M' ≠ 90) (hin : Cond.instanceMethod (ab_N M') ∈ ab_gt) (hini : Cond.initialized (ab_N M').cls ∈ ab_gt) (hname : (ab_N M').name = "<init>") (hdesc : (parseMethodDescriptor (ab_N M').desc).map (fun d => d.parameters.length) = some 0) (hret : ab_R M' = none)
    (hR : d + 1 ≤ R.frames ∧ 8 + (ab_L M' + 11) + 36 * d ≤ R.locals) (hrest : ((Value.ref 0 :: rest).map fun v => v.category).sum ≤ 8) (hdg : decode cc pc = .ok (.invokespecial jdx, 3)) (hf : cells + mc ≤ R.cells ∧ slots + ms ≤ R.slots)
    (b : Nat) (H1 : Heap) (locs1 : List Loc) (hp : PreS s H1 (va_Pc [.ref b] (ct_B dC dI cA H1.size (ct_w0 b ci))) [.ref b]) :
    va_Run p l e R s m args below meth c H1 locs1 cells slots mc ms (F0 m pc ls (.ref b :: .ref b :: rest)) (.ref b :: rest) (ct_Q dC dI ci Wf b H1.size [.ref b].toArray) (va_A (ct_w0 b ci) H1.size) := by
  obtain ⟨hx, hb, hml, hown, hts, hE, hA⟩ := X
  obtain ⟨m1, m2, m3, m4⟩ := ab_m_in hok.1 hok.2
  exact va_runI (As := []) (rest := .ref b :: rest) ⟨hx, hb, hml, hown, hts⟩ (hM b H1.size) (cwI 0 hts (ab_good_of (ab_ws_sub hok.1)) (by unfold ab_ws; rw [hret]) rfl rfl (hts _ hini) (hts _ hlk) (hts _ hin) hname ⟨m3.1, m3.2, hdesc⟩ hR) hp rfl rfl hls rfl (lv_room hrest) hdg hf
/-- a reference into a final field of the first cell -/
theorem ct_putF {h0 ci k idx q : Nat} {C : String} {T : u_T} {fs : List Value} {wr : va_W} {ty : FieldType} (X : ct_At dC dI cA A cc own nL p s m args c) (hin : meth.name = "<init>") (hc : ab_classes[ci]? = some (C, T, ab_nF ci)) (hk : k < ab_nF ci) (hl : Cond.fieldLink own idx C (T k).2.1 (T k).2.2.1 ∈ ab_gt) (hfin : (T k).2.2.2 = true) (hdecl : (T k).1 = own) (hC : C = own) (hd : parseFieldDescriptor (T k).2.2.1 = some ty) (hn : narrow ty (.ref q) = .ref q) (hfit : fits ty (.ref q) = true) (hlen : k < fs.length)
    (hWd : ct_Wd dC dI A s ((h0, .inr (ci, fs)) :: wr) H locs) (hdg : decode cc pc = .ok (.putfield idx, 3))
    (kk : ∀ (H1 : Heap) (locs1 : List Loc), ct_Wd dC dI A s ((h0, .inr (ci, fs.set k (.ref q))) :: wr) H1 locs1 → W p l e R s m args below meth c H1 locs1 cells slots Q (F0 m (pc + 3) ls rest)) : W p l e R s m args below meth c H locs cells slots Q (F0 m pc ls (.ref q :: .ref h0 :: rest)) := by
  obtain ⟨hx, hb, hml, hown, hts, hE, hA⟩ := X
  obtain ⟨hP, hD, hS⟩ := hWd
  obtain ⟨w1, w2, ty0, w3⟩ := ab_cls hc
  exact va_putF (D := (dC, dI)) (ci := ci) (v := .ref q) (ty := ty) (C := C) (T := T) (N := ab_nF ci) hx hb hts w1 ty0 w3 w2 hown hE.1 hP hD hS 0 rfl hc k hk (hts _ hl) (fun _ h9 => by rw [hC, ← hdecl]; exact h9) hfin hin hdecl hd hn hfit hlen hdg (fun H1 locs1 a1 a2 a3 => kk H1 locs1 ⟨a1, a2, a3⟩)
/-- a number into a field of the first cell -/
theorem ct_put {h0 ci k idx : Nat} {C : String} {T : u_T} {fs : List Value} {wr : va_W} {ty : FieldType} {v : Value} (X : ct_At dC dI cA A cc own nL p s m args c) (hc : ab_classes[ci]? = some (C, T, ab_nF ci)) (hk : k < ab_nF ci) (hl : Cond.fieldLink own idx C (T k).2.1 (T k).2.2.1 ∈ ab_gt) (hfin : (T k).2.2.2 = false) (hdecl : (T k).1 = own) (hC : C = own) (hd : parseFieldDescriptor (T k).2.2.1 = some ty) (hn : narrow ty v = v) (hfit : fits ty v = true) (hlen : k < fs.length)
    (hWd : ct_Wd dC dI A s ((h0, .inr (ci, fs)) :: wr) H locs) (hdg : decode cc pc = .ok (.putfield idx, 3))
    (kk : ∀ (H1 : Heap) (locs1 : List Loc), ct_Wd dC dI A s ((h0, .inr (ci, fs.set k v)) :: wr) H1 locs1 → W p l e R s m args below meth c H1 locs1 cells slots Q (F0 m (pc + 3) ls rest)) : W p l e R s m args below meth c H locs cells slots Q (F0 m pc ls (v :: .ref h0 :: rest)) := by
  obtain ⟨hx, hb, hml, hown, hts, hE, hA⟩ := X
  obtain ⟨hP, hD, hS⟩ := hWd
  obtain ⟨w1, w2, ty0, w3⟩ := ab_cls hc
  exact va_put (D := (dC, dI)) (ci := ci) (v := v) (ty := ty) (C := C) (T := T) (N := ab_nF ci) hx hb hts w1 ty0 w3 w2 hown hE.1 hP hD hS 0 rfl hc k hk (hts _ hl) (fun _ h9 => by rw [hC, ← hdecl]; exact h9) hfin hd hn hfit hlen hdg (fun H1 locs1 a1 a2 a3 => kk H1 locs1 ⟨a1, a2, a3⟩)
/-- a new array of numbers -/
theorem ct_newa {atype : ArrayType} {t0 kd N : Nat} {ty : FieldType} {a0 : vp_A} {n : Int32} (X : ct_At dC dI cA A cc own nL p s m args c) (hty : newarray.typeOf atype = ty) (ht : (ab_tys cA)[t0]? = some (cA kd, ty)) (hp : ty = .int ∨ ty = .byte ∨ ty = .boolean ∨ ty = .long) (harr : Cond.arrayClass ty ∈ ab_gt) (ha : ∀ cX : ClassId, vp_cell cX a0 = arrV cX N (fun _ => defaultValue ty)) (hn : ¬ n < 0) (hN : n.toNatClampNeg = N) (hbytes : N * componentBytes ty ≤ 536870912) (hcells : cells + 1 ≤ R.cells) (hslots : slots + N ≤ R.slots)
    (hWd : ct_Wd dC dI A s ws H locs) (hdg : decode cc pc = .ok (.newarray atype, 2))
    (kk : ∀ (q : Nat) (H1 : Heap), ct_Wd dC dI A s (ws ++ [(q, .inl (cA kd, a0))]) H1 locs → W p l e R s m args below meth c H1 locs (cells + 1) (slots + N) Q (F0 m (pc + 2) ls (.ref q :: rest))) : W p l e R s m args below meth c H locs cells slots Q (F0 m pc ls (.int n :: rest)) := by
  obtain ⟨hx, hb, hml, hown, hts, hE, hA⟩ := X
  obtain ⟨hP, hD, hS⟩ := hWd
  refine va_newa (ty := ty) (a0 := a0) hx hb (by rw [hty]; exact hts _ harr) hty hE.1 hP hD hS hA ha hn hN hbytes hcells hslots hdg (fun q cX H1 hK hP hD hS => ?_)
  have h1 := (hE.1.2 t0 _ ht).2
  have h2 := (hK.2 (ab_tys cA).length (cX, ty) (by simp)).2
  have h3 : cX = cA kd := by
    rcases hp with rfl | rfl | rfl | rfl <;> exact Option.some.inj (h2.symm.trans h1)
  subst h3
  exact kk q H1 ⟨hP, hD, hS⟩
end CT
