/-! THE LAW FROM ITS ENTRY -/
theorem st_nest : ∀ w ∈ ab_nest, w ∈ lw_tbl := by decide +kernel
theorem st_ao : Cond.arrayOver (.object "SaidLeast$State") ∈ lw_tbl := by decide +kernel
theorem st_lays : Cond.laysStatic "SaidLeast" "POWERS_OF_TEN" "[I" ∈ lw_tbl := by decide +kernel
theorem st_n0 : Cond.classLink R_law 7 "SaidLeast" ∈ ab_gt := ab_gt_in (by decide +kernel) rfl
theorem st_n1 : Cond.classLink R_law 10 "SaidLeastModel" ∈ ab_gt := ab_gt_in (by decide +kernel) rfl
theorem st_m0 : Cond.methodLink R_law 9 (ab_N 0) ∈ ab_gt := ab_gt_in (by decide +kernel) rfl
theorem st_m1 : Cond.methodLink R_law 12 (ab_N 99) ∈ ab_gt := ab_gt_in (by decide +kernel) rfl
/-- an array class -/
theorem st_arr {args : Array Value} {s : State} {ty : FieldType} (hp : ty = .int ∨ ty = .byte ∨ ty = .boolean ∨ ty = .long) (h : (Cond.arrayClass ty).before args s = true) : ∃ cX, ArrOfT s cX ty ∧ va_RA s cX ty := by
  obtain ⟨cX, kA, comp, h1, h2, h3⟩ := Cond.arrayClass_spec h
  refine ⟨cX, fun n z => ⟨fun k h => (by cases h), kA, h2, comp, h3⟩, ?_⟩
  rcases hp with rfl | rfl | rfl | rfl <;> exact h1
theorem st_arq {args : Array Value} {s : State} {C : String} (h : (Cond.arrayOver (.object C)).before args s = true) : ∃ cX, ArrOfT s cX (.object C) ∧ va_RA s cX (.object C) := by
  obtain ⟨comp, cX, kA, h1, -, h3, h4, h5⟩ := Cond.arrayOver_spec h
  exact ⟨cX, fun n z => ⟨fun k h => (by cases h), kA, h3, comp, h4⟩, kA, comp, h3, h4, h1, h5⟩
theorem st_cl {args : Array Value} {s : State} (hts : ∀ w ∈ ab_gt, w.before args s = true) (ci : Nat) : ∃ (cC : ClassId) (iS : Nat → Nat), ∀ q : vw_C, ab_classes[ci]? = some q → u_Kn s q.1 q.2.1 q.2.2 cC iS := by
  have key : ∀ (ci : Nat) (C : String) (T : u_T) (N n : Nat), ab_classes[ci]? = some (C, T, N) → Cond.instantiable C n ∈ ab_gt → ∃ (cC : ClassId) (iS : Nat → Nat), ∀ q : vw_C, ab_classes[ci]? = some q → u_Kn s q.1 q.2.1 q.2.2 cC iS := by
    intro ci C T N n h1 h2
    obtain ⟨cC, iS, h⟩ := u_known (n := n) hts (ab_cls h1).1 (hts _ h2)
    refine ⟨cC, iS, fun q hq => ?_⟩
    have : q = (C, T, N) := Option.some.inj (hq.symm.trans h1)
    subst this
    exact h
  match ci with
  | 0 => exact key 0 _ _ _ _ rfl li0
  | 1 => exact key 1 _ _ _ _ rfl li1
  | 2 => exact key 2 _ _ _ _ rfl li2
  | 3 => exact key 3 _ _ _ _ rfl li3
  | 4 => exact key 4 _ _ _ _ rfl li4
  | 5 => exact key 5 _ _ _ _ rfl li5
  | 6 => exact key 6 _ _ _ _ rfl li6
  | 7 => exact key 7 _ _ _ _ rfl li7
  | 8 => exact key 8 _ _ _ _ rfl li8
  | 9 => exact key 9 _ _ _ _ rfl li9
  | 10 => exact key 10 _ _ _ _ rfl li10
  | k + 11 => exact ⟨0, fun _ => 0, fun q hq => by
      have : k + 11 < 11 := (List.getElem?_eq_some_iff.mp hq).1
      omega⟩
theorem st_K {args : Array Value} {s : State} (hts : ∀ w ∈ ab_gt, w.before args s = true) (hao : (Cond.arrayOver (.object "SaidLeast$State")).before args s = true) : ∃ (dC : Nat → ClassId) (dI : Nat → Nat → Nat) (cA : Nat → ClassId), va_K (dC, dI) ab_classes (ab_tys cA) s := by
  obtain ⟨a0, b0⟩ := st_arr (Or.inl rfl) (hts _ ct_ai)
  obtain ⟨a1, b1⟩ := st_arr (Or.inr (Or.inl rfl)) (hts _ ct_ab)
  obtain ⟨a2, b2⟩ := st_arr (Or.inr (Or.inr (Or.inl rfl))) (hts _ ct_az)
  obtain ⟨a3, b3⟩ := st_arr (Or.inr (Or.inr (Or.inr rfl))) (hts _ ct_al)
  obtain ⟨a4, b4⟩ := st_arq hao
  refine ⟨fun ci => (st_cl hts ci).choose, fun ci => (st_cl hts ci).choose_spec.choose, fun k => if k = 100 then a0 else if k = 101 then a1 else if k = 102 then a2 else if k = 103 then a3 else a4, fun ci q hq => (st_cl hts ci).choose_spec.choose_spec q hq, fun k q hq => ?_⟩
  match k, hq with
  | 0, hq => cases hq; exact b0
  | 1, hq => cases hq; exact b1
  | 2, hq => cases hq; exact b2
  | 3, hq => cases hq; exact b3
  | 4, hq => cases hq; exact b4
  | k + 5, hq =>
    have : k + 5 < 5 := (List.getElem?_eq_some_iff.mp hq).1
    omega
abbrev st_tm : Term := .static "SaidLeast" "POWERS_OF_TEN" "[I"
theorem st_pow {args : Array Value} {s : State} {A : Nat → Prop} (hg : (Jvm.Cond.and given_1 narrow_1).before args s = true) (hl : (Cond.laysStatic "SaidLeast" "POWERS_OF_TEN" "[I").before args s = true) (hini : (Cond.initialized "SaidLeast").before args s = true) (hA : ∀ a : Nat, a < s.heap.size → ¬ A a) :
    ∃ t : Nat, va_Z "SaidLeast" "POWERS_OF_TEN" "[I" (.ref t) A s s.heap ∧ va_T .int t 9 (fun j => .int (ab_pw j)) A s s.heap := by
  have hs := flat_of_before _ hg
  have harr : (Cond.arrayOf st_tm .int).before args s = true := hs _ (by decide +kernel)
  have hlen : (Cond.eq (.length st_tm) (.int 9)).before args s = true := hs _ (by decide +kernel)
  have h0 : (Cond.eq (.elem st_tm (.int 0)) (.int 1)).before args s = true := hs _ (by decide +kernel)
  have h1 : (Cond.eq (.elem st_tm (.int 1)) (.int 10)).before args s = true := hs _ (by decide +kernel)
  have h2 : (Cond.eq (.elem st_tm (.int 2)) (.int 100)).before args s = true := hs _ (by decide +kernel)
  have h3 : (Cond.eq (.elem st_tm (.int 3)) (.int 1000)).before args s = true := hs _ (by decide +kernel)
  have h4 : (Cond.eq (.elem st_tm (.int 4)) (.int 10000)).before args s = true := hs _ (by decide +kernel)
  have h5 : (Cond.eq (.elem st_tm (.int 5)) (.int 100000)).before args s = true := hs _ (by decide +kernel)
  have h6 : (Cond.eq (.elem st_tm (.int 6)) (.int 1000000)).before args s = true := hs _ (by decide +kernel)
  have h7 : (Cond.eq (.elem st_tm (.int 7)) (.int 10000000)).before args s = true := hs _ (by decide +kernel)
  have h8 : (Cond.eq (.elem st_tm (.int 8)) (.int 100000000)).before args s = true := hs _ (by decide +kernel)
  obtain ⟨t, ht, hT⟩ := va_Tof (N := 9) (f := fun j => .int (ab_pw j)) (A := A) (by decide) harr (va_eqt hlen) (fun j hj => by
    match j, hj with
    | 0, _ => exact va_eqt h0
    | 1, _ => exact va_eqt h1
    | 2, _ => exact va_eqt h2
    | 3, _ => exact va_eqt h3
    | 4, _ => exact va_eqt h4
    | 5, _ => exact va_eqt h5
    | 6, _ => exact va_eqt h6
    | 7, _ => exact va_eqt h7
    | 8, _ => exact va_eqt h8) hA
  exact ⟨t, va_Zof hl hini ht hA, hT⟩
set_option maxHeartbeats 4000000 in
set_option maxRecDepth 100000 in
theorem whole_start {p : Program} {e : Env} {s : State} {m : MethodId} {below : List Frame} {meth : Method} {c : Code} (l : Launch) {b L : Nat} {xs : Nat → Int32} (hL : L ≤ 2560) (C0 : lw_At p s m meth c b L xs) : W p l e room_1 s m #[Value.ref b] below meth c s.heap [] 0 0 (lw_Z below #[Value.ref b] s) (entryFrame m ([Value.ref b] : List Value).toArray 4) := by
  obtain ⟨hx, hb, hr, hml, hown, hts, hX, hbl, hlocks, hgv⟩ := id C0
  have htg : ∀ w ∈ ab_gt, w.before #[Value.ref b] s = true := fun w hw => hts w (List.mem_filter.mp hw).1
  obtain ⟨dC, dI, cA, hK⟩ := st_K htg (hts _ st_ao)
  have hE : ct_Env dC dI cA s := ⟨hK, fun w hw => va_Nw.of (ct_nest_tab w hw) (hts w (ct_nest_in w hw)), va_AO.of (hts _ st_ao)⟩
  obtain ⟨t, hZ, hT⟩ := st_pow (A := fun q : Nat => s.heap.size ≤ q) hgv (hts _ st_lays) (htg _ ls0) (fun a h => Nat.not_le.mpr h)
  have XA : ct_At dC dI cA (fun q : Nat => s.heap.size ≤ q) code R_law 4 p s m #[Value.ref b] c := ⟨hx, hb, hml, hown, htg, hE, fun _ h => h⟩
  have hW : ct_Wd dC dI (fun q : Nat => s.heap.size ≤ q) s [] s.heap [] := ⟨fun k q h => by simp at h, ⟨fun i j p q h => by simp at h, fun k q h => by simp at h⟩, va_S.rf⟩
  have hl := lv_entry ([.ref b]) (n := 4) (Nat.le_of_ble_eq_true rfl)
  rw [lg_entry_eq]
  generalize (lg_sl ([.ref b]) ++ List.replicate (4 - (lg_sl ([.ref b])).length) Slot.unset).toArray = ls at hl ⊢
  have hl : lv_has ls 4 [(0, .ref b)] := hl
  refine ct_mk (ci := 0) (mc := 49) (ms := 2165) (C := "SaidLeast") (T := ab_T0) (Wf := cw0 cA) XA (by decide) rfl st_n0 li0 ls0 hW (Nat.le_of_ble_eq_true rfl) (Nat.le_of_ble_eq_true rfl) dl_0 dl_3 (fun b1 H1 locs1 hp => ct_callP (M' := 0) (d := 4) (jdx := 9) XA hl.1 (ct_0 l dC dI cA) st_m0 ⟨by decide, by decide, by decide, by decide⟩ lm0 ls0 rfl (by decide +kernel) rfl ⟨Nat.le_of_ble_eq_true rfl, Nat.le_of_ble_eq_true rfl⟩ (Nat.le_of_ble_eq_true rfl) dl_4 ⟨Nat.le_of_ble_eq_true rfl, Nat.le_of_ble_eq_true rfl⟩ b1 H1 locs1 hp) (fun h0 q H locs hW => ?_)
  have hW : ct_Wd dC dI (fun q : Nat => s.heap.size ≤ q) s (cw0 cA h0 q) H locs := hW
  refine W.widen (k := 50) (n := 2176) (Nat.le_of_ble_eq_true rfl) (Nat.le_of_ble_eq_true rfl) ?_
  refine lv_astore_n (lv' := [(1, .ref h0), (0, .ref b)]) hx hb dl_7 rfl hl (by decide) rfl (fun ls hl => ?_)
  refine ct_mk (ci := 10) (mc := 21) (ms := 766) (C := "SaidLeastModel") (T := ab_T10) (Wf := cw99 cA) XA (by decide) rfl st_n1 li10 ls10 hW (Nat.le_of_ble_eq_true rfl) (Nat.le_of_ble_eq_true rfl) dl_8 dl_11 (fun b1 H1 locs1 hp => ct_callP (M' := 99) (d := 1) (jdx := 12) XA hl.1 (ct_99 l dC dI cA) st_m1 ⟨by decide, by decide, by decide, by decide⟩ lm99 ls10 rfl (by decide +kernel) rfl ⟨Nat.le_of_ble_eq_true rfl, Nat.le_of_ble_eq_true rfl⟩ (Nat.le_of_ble_eq_true rfl) dl_12 ⟨Nat.le_of_ble_eq_true rfl, Nat.le_of_ble_eq_true rfl⟩ b1 H1 locs1 hp) (fun h1 q1 H locs hW => ?_)
  refine W.widen (k := 72) (n := 2980) (Nat.le_of_ble_eq_true rfl) (Nat.le_of_ble_eq_true rfl) ?_
  refine lv_astore_n (lv' := [(2, .ref h1), (1, .ref h0), (0, .ref b)]) hx hb dl_15 rfl hl (by decide) rfl (fun ls hl => ?_)
  refine lv_iconst (v := 0) hx hb dl_16 (by decide) ?_
  refine lv_istore_n (lv' := [(3, .int 0), (2, .ref h1), (1, .ref h0), (0, .ref b)]) hx hb dl_17 rfl hl (by decide) rfl (fun ls hl => ?_)
  have hW2 := s0_w t hW
  obtain ⟨hD, hAd⟩ := s0_ab hW2.2.1
  refine va_forget (fun q hq => hW2.2.2.2.2 q hq) ?_
  have XL : la_At dC dI cA (s0_ad h0 q h1 q1 t) p s m meth c b L xs := ⟨hx, hb, hr, hml, hown, htg, hX, hbl, hlocks, ⟨hK, fun w hw => va_Nw.of (ab_nest_tab w hw) (hts w (st_nest w hw)), hZ.narrow hAd, hT.narrow hAd⟩, hAd⟩
  exact la_loop XL hL (Nat.le_of_ble_eq_true rfl) (Nat.le_of_ble_eq_true rfl) L 0 99 s0 H [] ls (by omega) (by omega) (by omega) (by omega) s0_inv ⟨hW2.1, hD, hW2.2.2.1, fun a h1 h2 => hW2.2.2.2.1 a h1 (Nat.not_le.mpr h1), fun _ h => by cases h⟩ (lv_sub hl [3, 2, 1, 0] rfl)
