/-! ONE STEP OF THE SMALL MACHINE IS ONE OF THE MACHINE -/
def ab_rm (d : Nat) : Room := { frames := d, cells := 0, slots := 0, locals := 36 * d }
section ABS
variable {p : Program} {l : Launch} {e : Env} {R : Room} {s : State} {m : MethodId} {args : Array Value} {below : List Frame} {meth : Method} {c : Code} {H : Heap} {locs : List Loc} {cells slots : Nat} {Q : State → Prop} {ad : Nat → Nat} {la : Array Slot} {pc M nL : Nat} {ls : ab_Lo} {i : Instr} {len : Nat} {st st' : List Value}
set_option maxHeartbeats 4000000 in
theorem ab_sA1 (hx : p.tables.exec = Jvm.exec) (hb : c.code = ab_C M) (hown : s.vm.findClass (ab_cn (ab_O M)) = some m.cls) (hts : ∀ w ∈ ab_gt, w.before args s = true) (hl : lv_has la nL (ab_lo ad ls)) (hdg : decode (ab_C M) pc = .ok (i, len)) (h : ab_A1 M i len ls st = some st')
    (k : W p l e R s m args below meth c H locs cells slots Q (F0 m (pc + len) la (st'.map (ab_cv ad)))) : W p l e R s m args below meth c H locs cells slots Q (F0 m pc la (st.map (ab_cv ad))) := by
  unfold ab_A1 at h
  split at h
  · cases h; exact lv_iconst hx hb hdg rfl k
  · cases h; exact lv_bipush hx hb hdg rfl k
  · cases h; exact lv_sipush hx hb hdg rfl k
  · cases h; exact lv_lconst hx hb hdg rfl k
  · obtain ⟨x, h1, rfl⟩ := Option.map_eq_some_iff.mp h; exact lv_iload_n hx hb hdg rfl (ab_has_I hl h1) k
  · obtain ⟨x, h1, rfl⟩ := Option.map_eq_some_iff.mp h; exact lv_iload hx hb hdg (ab_has_I hl h1) k
  · obtain ⟨x, h1, rfl⟩ := Option.map_eq_some_iff.mp h; exact lv_lload_n hx hb hdg rfl (ab_has_L hl h1) k
  · obtain ⟨x, h1, rfl⟩ := Option.map_eq_some_iff.mp h; exact lv_lload hx hb hdg (ab_has_L hl h1) k
  · obtain ⟨x, h1, rfl⟩ := Option.map_eq_some_iff.mp h; exact lv_aload_n hx hb hdg rfl (ab_has_R hl h1) k
  · obtain ⟨x, h1, rfl⟩ := Option.map_eq_some_iff.mp h; exact lv_aload hx hb hdg (ab_has_R hl h1) k
  · obtain ⟨x, h1, rfl⟩ := Option.map_eq_some_iff.mp h; exact lv_ldc hx hb hown (hts _ (ab_ci_in h1)) hdg k
  · obtain ⟨x, h1, rfl⟩ := Option.map_eq_some_iff.mp h; exact lv_ldcw hx hb hown (hts _ (ab_ci_in h1)) hdg k
  · obtain ⟨x, h1, rfl⟩ := Option.map_eq_some_iff.mp h; exact lv_ldc2 hx hb hown (hts _ (ab_cl_in h1)) hdg k
  · split at h
    next hc => cases h; exact lv_dup hx hb hdg (by rw [ab_cv_cat]; exact hc) k
    next => cases h
  · split at h
    next hc => cases h; exact lv_dup2_11 hx hb hdg (by rw [ab_cv_cat]; exact hc.1) (by rw [ab_cv_cat]; exact hc.2) k
    next => cases h
  · split at h
    next hc => cases h; exact lv_pop hx hb hdg (by rw [ab_cv_cat]; exact hc) k
    next => cases h
  · cases h
set_option maxHeartbeats 4000000 in
theorem ab_sA2 (hx : p.tables.exec = Jvm.exec) (hb : c.code = ab_C M) (hdg : decode (ab_C M) pc = .ok (i, len)) (h : ab_A2 i len st = some st')
    (k : W p l e R s m args below meth c H locs cells slots Q (F0 m (pc + len) la (st'.map (ab_cv ad)))) : W p l e R s m args below meth c H locs cells slots Q (F0 m pc la (st.map (ab_cv ad))) := by
  unfold ab_A2 at h
  split at h
  · cases h; exact lv_iadd hx hb hdg k
  · cases h; exact lv_isub hx hb hdg k
  · cases h; exact lv_imul hx hb hdg k
  · cases h; exact lv_iand hx hb hdg k
  · cases h; exact lv_ior hx hb hdg k
  · cases h; exact lv_ixor hx hb hdg k
  · cases h; exact lv_ishl hx hb hdg k
  · cases h; exact lv_ishr hx hb hdg k
  · cases h; exact lv_iushr hx hb hdg rfl k
  · split at h
    next => cases h
    next hc => cases h; exact lv_idiv hx hb hdg hc k
  · split at h
    next => cases h
    next hc => cases h; exact lv_irem hx hb hdg hc k
  · cases h; exact lv_ladd hx hb hdg k
  · cases h; exact lv_lmul hx hb hdg k
  · split at h
    next => cases h
    next hc => cases h; exact lv_ldiv hx hb hdg hc k
  · split at h
    next => cases h
    next hc => cases h; exact lv_lrem hx hb hdg hc k
  · cases h; exact W.lcmp hx hb hdg k
  · cases h; exact lv_i2l hx hb hdg rfl k
  · cases h; exact lv_l2i hx hb hdg rfl k
  · cases h; exact lv_i2b hx hb hdg rfl k
  · cases h; exact lv_lshr hx hb hdg rfl k
  · cases h; exact lv_lushr hx hb hdg rfl k
  · cases h
theorem ab_sum (st : List Value) : ((st.map (ab_cv ad)).map fun v => v.category).sum = (st.map fun v => v.category).sum := by
  rw [List.map_map]
  congr 1
  exact List.map_congr_left (fun v _ => ab_cv_cat ad v)
set_option maxHeartbeats 4000000 in
theorem ab_sX {d : Nat} (hx : p.tables.exec = Jvm.exec) (hb : c.code = ab_C M) (hml : c.maxLocals = la.size) (hown : s.vm.findClass (ab_cn (ab_O M)) = some m.cls) (hts : ∀ w ∈ ab_gt, w.before args s = true) (hdg : decode (ab_C M) pc = .ok (i, len)) (h : ab_X d M i len st = some st')
    (k : W p l e (ab_rm d) s m args below meth c H locs 0 0 Q (F0 m (pc + len) la (st'.map (ab_cv ad)))) : W p l e (ab_rm d) s m args below meth c H locs 0 0 Q (F0 m pc la (st.map (ab_cv ad))) := by
  unfold ab_X at h
  split at h
  next idx y x st =>
    obtain ⟨q, h1, h2⟩ := Option.bind_eq_some_iff.mp h
    split at h2
    next hc =>
      cases h2
      have hf : 1 ≤ (ab_rm d).frames := hc.1
      have hlo : ((st.map (ab_cv ad)).map fun v => v.category).sum + 13 ≤ (ab_rm d).locals := by rw [ab_sum]; show _ ≤ 36 * d; omega
      rcases ab_mm_in h1 with ⟨rfl, h3⟩ | ⟨hq, h3⟩
      · exact va_mmax hx hb hml hown (hts _ h3) (hts _ ab_mm_w.1) (hts _ ab_mm_w.2.2) (hts _ ab_mm_c.1) hf hlo (Nat.le_refl 0) (Nat.le_refl 0) hdg k
      · rw [if_neg hq] at k
        exact va_mmin hx hb hml hown (hts _ h3) (hts _ ab_mm_w.2.1) (hts _ ab_mm_w.2.2) (hts _ ab_mm_c.2) hf hlo (Nat.le_refl 0) (Nat.le_refl 0) hdg k
    next => cases h2
  next => cases h
set_option maxHeartbeats 4000000 in
theorem ab_sS {q : ab_Lo × List Value} (hx : p.tables.exec = Jvm.exec) (hb : c.code = ab_C M) (hl : lv_has la nL (ab_lo ad ls)) (hn : ls.length = nL) (hdg : decode (ab_C M) pc = .ok (i, len)) (h : ab_S i len ls st = some q)
    (k : ∀ la' : Array Slot, lv_has la' nL (ab_lo ad q.1) → q.1.length = nL → W p l e R s m args below meth c H locs cells slots Q (F0 m (pc + len) la' (q.2.map (ab_cv ad)))) : W p l e R s m args below meth c H locs cells slots Q (F0 m pc la (st.map (ab_cv ad))) := by
  unfold ab_S at h
  split at h
  · split at h
    next hc => cases h; exact lv_istore_n hx hb hdg rfl hl (by omega) rfl (fun la' h' => k la' (ab_has_mono h' ab_st1) (by rw [List.length_set]; exact hn))
    next => cases h
  · split at h
    next hc => cases h; exact lv_istore hx hb hdg hl (by omega) rfl (fun la' h' => k la' (ab_has_mono h' ab_st1) (by rw [List.length_set]; exact hn))
    next => cases h
  · split at h
    next hc => cases h; exact lv_lstore_n hx hb hdg rfl hl (by omega) rfl (fun la' h' => k la' (ab_has_mono h' ab_st2) (by rw [List.length_set, List.length_set]; exact hn))
    next => cases h
  · split at h
    next hc => cases h; exact lv_lstore hx hb hdg hl (by omega) rfl (fun la' h' => k la' (ab_has_mono h' ab_st2) (by rw [List.length_set, List.length_set]; exact hn))
    next => cases h
  next st j n =>
    obtain ⟨x, h1, h2⟩ := Option.bind_eq_some_iff.mp h
    split at h2
    next hc =>
      cases h2
      have hm : (j, Value.int x) ∈ ab_lo ad ls := by
        unfold ab_ldI at h1
        split at h1
        next y hy => cases h1; exact ab_lo_mem.mpr ⟨.int x, hy, (fun e => by cases e), rfl⟩
        next => cases h1
      obtain ⟨kk, hkk⟩ := List.getElem?_of_mem hm
      exact lv_iinc hx hb hdg hl hkk rfl (by omega) rfl (fun la' h' => k la' (ab_has_mono h' ab_st1) (by rw [List.length_set]; exact hn))
    next => cases h2
  · cases h
theorem ab_to_eq {off : Int} (h : 0 ≤ (pc : Int) + off) : (pc : Int) + off = (ab_to pc off : Int) := (Int.toNat_of_nonneg h).symm
set_option maxHeartbeats 4000000 in
theorem ab_sJ {q : Nat × List Value} (hx : p.tables.exec = Jvm.exec) (hb : c.code = ab_C M) (hdg : decode (ab_C M) pc = .ok (i, len)) (h : ab_J i len pc st = some q)
    (k : W p l e R s m args below meth c H locs cells slots Q (F0 m q.1 la (q.2.map (ab_cv ad)))) : W p l e R s m args below meth c H locs cells slots Q (F0 m pc la (st.map (ab_cv ad))) := by
  unfold ab_J at h
  split at h
  · split at h
    next hc => cases h; exact lv_goto hx hb hdg (ab_to_eq hc) k
    next => cases h
  · split at h
    next hc => cases h; exact lv_if_eq hx hb hdg (ab_to_eq hc) (fun z => by simp only [if_pos z] at k; exact k) (fun z => by simp only [if_neg z] at k; exact k)
    next => cases h
  · split at h
    next hc => cases h; exact lv_if_ne hx hb hdg (ab_to_eq hc) (fun z => by simp only [if_neg z] at k; exact k) (fun z => by simp only [if_pos z] at k; exact k)
    next => cases h
  · split at h
    next hc => cases h; exact lv_if_lt hx hb hdg (ab_to_eq hc) (fun z => by simp only [if_pos z] at k; exact k) (fun z => by simp only [if_neg z] at k; exact k)
    next => cases h
  · split at h
    next hc => cases h; exact lv_if_ge hx hb hdg (ab_to_eq hc) (fun z => by simp only [if_pos z] at k; exact k) (fun z => by simp only [if_neg z] at k; exact k)
    next => cases h
  · split at h
    next hc => cases h; exact lv_if_gt hx hb hdg (ab_to_eq hc) (fun z => by simp only [if_pos z] at k; exact k) (fun z => by simp only [if_neg z] at k; exact k)
    next => cases h
  · split at h
    next hc => cases h; exact lv_if_le hx hb hdg (ab_to_eq hc) (fun z => by simp only [if_pos z] at k; exact k) (fun z => by simp only [if_neg z] at k; exact k)
    next => cases h
  · split at h
    next hc => cases h; exact lv_icmp_eq hx hb hdg (ab_to_eq hc) (fun z => by simp only [if_pos z] at k; exact k) (fun z => by simp only [if_neg z] at k; exact k)
    next => cases h
  · split at h
    next hc => cases h; exact lv_icmp_ne hx hb hdg (ab_to_eq hc) (fun z => by simp only [if_neg z] at k; exact k) (fun z => by simp only [if_pos z] at k; exact k)
    next => cases h
  · split at h
    next hc => cases h; exact lv_icmp_lt hx hb hdg (ab_to_eq hc) (fun z => by simp only [if_pos z] at k; exact k) (fun z => by simp only [if_neg z] at k; exact k)
    next => cases h
  · split at h
    next hc => cases h; exact lv_icmp_ge hx hb hdg (ab_to_eq hc) (fun z => by simp only [if_pos z] at k; exact k) (fun z => by simp only [if_neg z] at k; exact k)
    next => cases h
  · split at h
    next hc => cases h; exact lv_icmp_gt hx hb hdg (ab_to_eq hc) (fun z => by simp only [if_pos z] at k; exact k) (fun z => by simp only [if_neg z] at k; exact k)
    next => cases h
  · split at h
    next hc => cases h; exact lv_icmp_le hx hb hdg (ab_to_eq hc) (fun z => by simp only [if_pos z] at k; exact k) (fun z => by simp only [if_neg z] at k; exact k)
    next => cases h
  next dflt lo hi offs _ x st =>
    obtain ⟨off, h1, h2⟩ := Option.bind_eq_some_iff.mp h
    split at h2
    next hc =>
      cases h2
      unfold ab_tsw at h1
      split at h1
      next hz => cases h1; exact lv_tableOut hx hb hdg hz (ab_to_eq hc) k
      next hz => exact lv_tableIn hx hb hdg (fun z => hz (Or.inl z)) (fun z => hz (Or.inr z)) h1 (ab_to_eq hc) k
    next => cases h2
  · cases h
end ABS
/-- what holds of the machine's tables and statics, at a state and a heap -/
def ab_Env (dC : Nat → ClassId) (dI : Nat → Nat → Nat) (ad : Nat → Nat) (cA : Nat → ClassId) (U : State) (H : Heap) : Prop :=
  va_K (dC, dI) ab_classes (ab_tys cA) U ∧ (∀ w ∈ ab_nest, va_Nw w U) ∧ va_Z "SaidLeast" "POWERS_OF_TEN" "[I" (.ref (ad 1000)) (ab_Ad ad) U H ∧ va_T .int (ad 1000) 9 (fun j => .int (ab_pw j)) (ab_Ad ad) U H
section ABH
variable {p : Program} {l : Launch} {e : Env} {R : Room} {s : State} {m : MethodId} {args : Array Value} {below : List Frame} {meth : Method} {c : Code} {H : Heap} {locs : List Loc} {cells slots : Nat} {Q : State → Prop} {ad : Nat → Nat} {la : Array Slot} {pc M nL : Nat} {ls : ab_Lo} {i : Instr} {len : Nat} {st st' : List Value}
variable {dC : Nat → ClassId} {dI : Nat → Nat → Nat} {cA : Nat → ClassId} {σ : ab_St}
theorem ab_fs_get {ci k cc : Nat} (hk : k < ab_nF ci) : ((List.range (ab_nF ci)).map (fun k => ab_cv ad (ab_fv σ ci cc k)))[k]? = some (ab_cv ad (ab_fv σ ci cc k)) := by
  rw [List.getElem?_map, List.getElem?_range hk]
  rfl
theorem ab_mem_app {X : List Cond} {own : Cond} : ∀ w ∈ ab_gt, w ∈ own :: ab_gt := fun w h => List.mem_cons_of_mem _ h
set_option maxHeartbeats 8000000 in
theorem ab_sH {d : Nat} {q : List Value × ab_St} (hx : p.tables.exec = Jvm.exec) (hb : c.code = ab_C M) (hml : c.maxLocals = la.size) (hown : s.vm.findClass (ab_cn (ab_O M)) = some m.cls) (hts : ∀ w ∈ ab_gt, w.before args s = true) (hE : ab_Env dC dI ad cA s s.heap) (hP : va_P (dC, dI) ab_classes (ab_w ad cA σ) H) (hD : va_D (ab_Ad ad) (ab_w ad cA σ)) (hS : va_S (ab_Ad ad) s.heap H locs)
    (hdg : decode (ab_C M) pc = .ok (i, len)) (h : ab_H d M i len st σ = some q)
    (k : ∀ (H1 : Heap) (locs1 : List Loc), va_P (dC, dI) ab_classes (ab_w ad cA q.2) H1 → va_D (ab_Ad ad) (ab_w ad cA q.2) → va_S (ab_Ad ad) s.heap H1 locs1 → W p l e (ab_rm d) s m args below meth c H1 locs1 0 0 Q (F0 m (pc + len) la (q.1.map (ab_cv ad)))) : W p l e (ab_rm d) s m args below meth c H locs 0 0 Q (F0 m pc la (st.map (ab_cv ad))) := by
  obtain ⟨hK, hN, hZ, hT⟩ := hE
  unfold ab_H at h
  split at h
  -- getfield
  next idx c0 st =>
    obtain ⟨r, h1, h2⟩ := Option.bind_eq_some_iff.mp h
    obtain ⟨C, T, g1, g2, g3, g4, g5, -, -⟩ := ab_fl_in h1
    split at h2
    next hc =>
      cases h2
      exact va_get (D := (dC, dI)) (v := ab_cv ad (ab_fv σ r.1 c0 r.2)) hx hb hts (ab_cls g1).1 hown hK hP c0 (ab_at_o ad cA σ hc g3) g1 r.2 g2 (hts _ g4) (fun _ h9 => by rw [g5] at h9; exact h9) (ab_fs_get g2) hdg (k H locs hP hD hS)
    next => cases h2
  -- putfield int
  next idx x c0 st =>
    obtain ⟨r, h1, h2⟩ := Option.bind_eq_some_iff.mp h
    obtain ⟨C, T, g1, g2, g3, g4, g5, g6, -⟩ := ab_fl_in h1
    obtain ⟨z1, z2, ty0, z3⟩ := ab_cls g1
    split at h2
    next hf =>
      split at h2
      next hc =>
        cases h2
        obtain ⟨f1, f2⟩ := g6 hf
        refine va_put (D := (dC, dI)) (v := .int x) (ty := .int) hx hb hts z1 ty0 z3 z2 hown hK hP hD hS c0 (ab_at_o ad cA σ hc g3) g1 r.2 g2 (hts _ g4) (fun _ h9 => by rw [g5] at h9; exact h9) f2 (by rw [f1]; decide +kernel) rfl rfl (by rw [List.length_map, List.length_range]; exact g2) hdg (fun H1 locs1 a1 a2 a3 => ?_)
        rw [ab_wI_set ad cA (by omega) (ab_ce_oI ad cA σ x hc g3 hf g2)] at a1 a2
        exact k H1 locs1 a1 a2 a3
      next => cases h2
    next => cases h2
  -- putfield long
  next idx x c0 st =>
    obtain ⟨r, h1, h2⟩ := Option.bind_eq_some_iff.mp h
    obtain ⟨C, T, g1, g2, g3, g4, g5, -, g6⟩ := ab_fl_in h1
    obtain ⟨z1, z2, ty0, z3⟩ := ab_cls g1
    split at h2
    next hf =>
      split at h2
      next hc =>
        cases h2
        obtain ⟨f1, f2⟩ := g6 hf
        refine va_put (D := (dC, dI)) (v := .long x) (ty := .long) hx hb hts z1 ty0 z3 z2 hown hK hP hD hS c0 (ab_at_o ad cA σ hc g3) g1 r.2 g2 (hts _ g4) (fun _ h9 => by rw [g5] at h9; exact h9) f2 (by rw [f1]; decide +kernel) rfl rfl (by rw [List.length_map, List.length_range]; exact g2) hdg (fun H1 locs1 a1 a2 a3 => ?_)
        rw [ab_wL_set ad cA (by omega) (ab_ce_oL ad cA σ x hc g3 hf g2)] at a1 a2
        exact k H1 locs1 a1 a2 a3
      next => cases h2
    next => cases h2
  -- getstatic
  next st idx =>
    obtain ⟨r, h1, h2⟩ := Option.map_eq_some_iff.mp h
    cases h2
    rcases ab_gs_in h1 with ⟨-, h3⟩ | h3
    · exact va_gets hx hb hZ hS hown (hts _ h3) (fun _ h9 => h9) hdg (k H locs hP hD hS)
    · exact va_getsN hx hb hZ hS hown (va_Nw.use rfl (hN _ h3)) (fun _ h9 => h9) hdg (k H locs hP hD hS)
  -- iaload of the static array
  next j st =>
    split at h
    next hj => cases h; exact va_ti hx hb hT hS hj rfl hdg (k H locs hP hD hS)
    next => cases h
  -- iaload
  next j c0 st =>
    split at h
    next hc => cases h; exact va_iald hx hb hK hP c0 0 (ab_at_i ad cA σ hc.1 (Or.inl rfl)) rfl hc.2 hdg (k H locs hP hD hS)
    next => cases h
  -- baload
  next j c0 st =>
    split at h
    next hc =>
      cases h
      rcases hc.1 with h1 | h1
      · exact va_bald hx hb hK hP c0 1 (ab_at_i ad cA σ h1 (by omega)) rfl hc.2 hdg (k H locs hP hD hS)
      · exact va_zald hx hb hK hP c0 2 (ab_at_i ad cA σ h1 (by omega)) rfl hc.2 hdg (k H locs hP hD hS)
    next => cases h
  -- laload
  next j c0 st =>
    split at h
    next hc => cases h; exact va_lald hx hb hK hP c0 3 (ab_at_l ad cA σ hc.1) rfl hc.2 hdg (k H locs hP hD hS)
    next => cases h
  -- aaload
  next j c0 st =>
    split at h
    next hc => cases h; exact va_aldq hx hb hK hP c0 4 (ab_at_q ad cA σ hc.1) rfl hc.2 hdg (k H locs hP hD hS)
    next => cases h
  -- iastore
  next x j c0 st =>
    split at h
    next hc =>
      cases h
      refine va_iast hx hb hK hP hD hS c0 0 (ab_at_i ad cA σ hc.1 (Or.inl rfl)) rfl hc.2 hdg (fun H1 locs1 a1 a2 a3 => ?_)
      rw [ab_wI_set ad cA (by omega) (ab_ce_i ad cA σ _ hc.1 (Or.inl rfl))] at a1 a2
      exact k H1 locs1 a1 a2 a3
    next => cases h
  -- bastore
  next x j c0 st =>
    split at h
    next hc =>
      cases h
      refine va_bast hx hb hK hP hD hS c0 1 (ab_at_i ad cA σ hc.1 (by omega)) rfl hc.2 hdg (fun H1 locs1 a1 a2 a3 => ?_)
      rw [ab_wI_set ad cA (by omega) (ab_ce_i ad cA σ _ hc.1 (by omega))] at a1 a2
      exact k H1 locs1 a1 a2 a3
    next =>
      split at h
      next hc =>
        cases h
        refine va_zast hx hb hK hP hD hS c0 2 (ab_at_i ad cA σ hc.1 (by omega)) rfl hc.2 hdg (fun H1 locs1 a1 a2 a3 => ?_)
        rw [ab_wI_set ad cA (by omega) (ab_ce_i ad cA σ _ hc.1 (by omega))] at a1 a2
        exact k H1 locs1 a1 a2 a3
      next => cases h
  -- lastore
  next x j c0 st =>
    split at h
    next hc =>
      cases h
      refine va_last hx hb hK hP hD hS c0 3 (ab_at_l ad cA σ hc.1) rfl hc.2 hdg (fun H1 locs1 a1 a2 a3 => ?_)
      rw [ab_wL_set ad cA (by omega) (ab_ce_l ad cA σ _ hc.1)] at a1 a2
      exact k H1 locs1 a1 a2 a3
    next => cases h
  -- arraylength
  next c0 st =>
    split at h
    next hc =>
      cases h
      rcases (show ab_k c0 = 100 ∨ ab_k c0 = 101 ∨ ab_k c0 = 102 ∨ ab_k c0 = 103 by omega) with h1 | h1 | h1 | h1
      · exact va_alen hx hb hK hP c0 0 (ab_at_i ad cA σ h1 (by omega)) (ty := .int) rfl rfl hdg (k H locs hP hD hS)
      · exact va_alen hx hb hK hP c0 1 (ab_at_i ad cA σ h1 (by omega)) (ty := .byte) rfl rfl hdg (k H locs hP hD hS)
      · exact va_alen hx hb hK hP c0 2 (ab_at_i ad cA σ h1 (by omega)) (ty := .boolean) rfl rfl hdg (k H locs hP hD hS)
      · exact va_alen hx hb hK hP c0 3 (ab_at_l ad cA σ h1) (ty := .long) rfl rfl hdg (k H locs hP hD hS)
    next => cases h
  -- arraycopy
  next idx n dp c1 sp c0 st =>
    split at h
    next ha =>
      split at h
      next hc =>
        cases h
        obtain ⟨d1, ⟨k0, k1⟩, ⟨n1, n2, n3⟩, n4, n5, n6⟩ := hc
        have hw7 : nativeFrameWords "java/lang/System" "arraycopy" 5 = 7 := by decide +kernel
        have hlo : ((st.map (ab_cv ad)).map fun v => v.category).sum + (nativeFrameWords "java/lang/System" "arraycopy" 5 + 11) ≤ (ab_rm d).locals := by
          rw [ab_sum, hw7]
          show _ ≤ 36 * d
          omega
        have hfr : 1 ≤ (ab_rm d).frames := d1
        refine va_copyi hx hb hml hown (hts _ (ab_ac_in ha)) (hts _ ab_ac_n) (hts _ ab_ac_s) (hts _ ab_ac_i) hK hP hD hS c0 c1 0 0 (ty := .int) (ab_at_i ad cA σ k0 (Or.inl rfl)) (ab_at_i ad cA σ k1 (Or.inl rfl)) rfl rfl rfl n1 n2 n3 n4 n5 (fun _ _ => rfl) hfr hlo hdg (fun H1 locs1 a1 a2 a3 => ?_)
        rw [ab_wI_set ad cA (by omega) (ab_ce_i ad cA σ _ k1 (Or.inl rfl))] at a1 a2
        exact k H1 locs1 a1 a2 a3
      next => cases h
    next => cases h
  · cases h
end ABH
