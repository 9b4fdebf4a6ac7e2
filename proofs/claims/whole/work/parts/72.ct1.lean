/-! CONSTRUCTORS, by program: small ones -/
theorem ct_ai : Cond.arrayClass .int ∈ ab_gt := ab_gt_in (by decide +kernel) rfl
theorem ct_ab : Cond.arrayClass .byte ∈ ab_gt := ab_gt_in (by decide +kernel) rfl
theorem ct_az : Cond.arrayClass .boolean ∈ ab_gt := ab_gt_in (by decide +kernel) rfl
theorem ct_al : Cond.arrayClass .long ∈ ab_gt := ab_gt_in (by decide +kernel) rfl
theorem li4 : Cond.instantiable "SaidLeast$State" 5 ∈ ab_gt := ab_gt_in (by decide +kernel) rfl
theorem ls4 : Cond.initialized "SaidLeast$State" ∈ ab_gt := ab_gt_in (by decide +kernel) rfl
theorem lm5 : Cond.instanceMethod (ab_N 5) ∈ ab_gt := ab_gt_in (by decide +kernel) rfl
theorem li3 : Cond.instantiable "SaidLeast$Told" 6 ∈ ab_gt := ab_gt_in (by decide +kernel) rfl
theorem ls3 : Cond.initialized "SaidLeast$Told" ∈ ab_gt := ab_gt_in (by decide +kernel) rfl
theorem lm4 : Cond.instanceMethod (ab_N 4) ∈ ab_gt := ab_gt_in (by decide +kernel) rfl
theorem li1 : Cond.instantiable "SaidLeast$Text" 2 ∈ ab_gt := ab_gt_in (by decide +kernel) rfl
theorem ls1 : Cond.initialized "SaidLeast$Text" ∈ ab_gt := ab_gt_in (by decide +kernel) rfl
theorem lm2 : Cond.instanceMethod (ab_N 2) ∈ ab_gt := ab_gt_in (by decide +kernel) rfl
theorem li5 : Cond.instantiable "SaidLeast$Acts" 7 ∈ ab_gt := ab_gt_in (by decide +kernel) rfl
theorem ls5 : Cond.initialized "SaidLeast$Acts" ∈ ab_gt := ab_gt_in (by decide +kernel) rfl
theorem lm6 : Cond.instanceMethod (ab_N 6) ∈ ab_gt := ab_gt_in (by decide +kernel) rfl
theorem li7 : Cond.instantiable "SaidLeast$Ahead" 1 ∈ ab_gt := ab_gt_in (by decide +kernel) rfl
theorem ls7 : Cond.initialized "SaidLeast$Ahead" ∈ ab_gt := ab_gt_in (by decide +kernel) rfl
theorem lm8 : Cond.instanceMethod (ab_N 8) ∈ ab_gt := ab_gt_in (by decide +kernel) rfl
theorem li2 : Cond.instantiable "SaidLeast$Reader" 4 ∈ ab_gt := ab_gt_in (by decide +kernel) rfl
theorem ls2 : Cond.initialized "SaidLeast$Reader" ∈ ab_gt := ab_gt_in (by decide +kernel) rfl
theorem lm3 : Cond.instanceMethod (ab_N 3) ∈ ab_gt := ab_gt_in (by decide +kernel) rfl
theorem li6 : Cond.instantiable "SaidLeast$Orders" 6 ∈ ab_gt := ab_gt_in (by decide +kernel) rfl
theorem ls6 : Cond.initialized "SaidLeast$Orders" ∈ ab_gt := ab_gt_in (by decide +kernel) rfl
theorem lm7 : Cond.instanceMethod (ab_N 7) ∈ ab_gt := ab_gt_in (by decide +kernel) rfl
theorem li8 : Cond.instantiable "SaidLeast$Contest" 3 ∈ ab_gt := ab_gt_in (by decide +kernel) rfl
theorem ls8 : Cond.initialized "SaidLeast$Contest" ∈ ab_gt := ab_gt_in (by decide +kernel) rfl
theorem lm9 : Cond.instanceMethod (ab_N 9) ∈ ab_gt := ab_gt_in (by decide +kernel) rfl
theorem li9 : Cond.instantiable "SaidLeast$Guesses" 4 ∈ ab_gt := ab_gt_in (by decide +kernel) rfl
theorem ls9 : Cond.initialized "SaidLeast$Guesses" ∈ ab_gt := ab_gt_in (by decide +kernel) rfl
theorem lm10 : Cond.instanceMethod (ab_N 10) ∈ ab_gt := ab_gt_in (by decide +kernel) rfl
theorem li10 : Cond.instantiable "SaidLeastModel" 38 ∈ ab_gt := ab_gt_in (by decide +kernel) rfl
theorem ls10 : Cond.initialized "SaidLeastModel" ∈ ab_gt := ab_gt_in (by decide +kernel) rfl
theorem lm99 : Cond.instanceMethod (ab_N 99) ∈ ab_gt := ab_gt_in (by decide +kernel) rfl
theorem li0 : Cond.instantiable "SaidLeast" 11 ∈ ab_gt := ab_gt_in (by decide +kernel) rfl
theorem ls0 : Cond.initialized "SaidLeast" ∈ ab_gt := ab_gt_in (by decide +kernel) rfl
theorem lm0 : Cond.instanceMethod (ab_N 0) ∈ ab_gt := ab_gt_in (by decide +kernel) rfl
theorem dk5_0 : decode (ab_C 5) 0 = .ok (.aload_n 0, 1) := by decide +kernel
theorem dk5_1 : decode (ab_C 5) 1 = .ok (.invokespecial 3, 3) := by decide +kernel
theorem dk5_4 : decode (ab_C 5) 4 = .ok (.aload_n 0, 1) := by decide +kernel
theorem dk5_5 : decode (ab_C 5) 5 = .ok (.bipush 6, 2) := by decide +kernel
theorem dk5_7 : decode (ab_C 5) 7 = .ok (.newarray .int, 2) := by decide +kernel
theorem dk5_9 : decode (ab_C 5) 9 = .ok (.putfield 9, 3) := by decide +kernel
theorem dk5_12 : decode (ab_C 5) 12 = .ok (.aload_n 0, 1) := by decide +kernel
theorem dk5_13 : decode (ab_C 5) 13 = .ok (.bipush (-9), 2) := by decide +kernel
theorem dk5_15 : decode (ab_C 5) 15 = .ok (.putfield 15, 3) := by decide +kernel
theorem dk5_18 : decode (ab_C 5) 18 = .ok (.return_, 1) := by decide +kernel
theorem lk5_9 : Cond.fieldLink "SaidLeast$State" 9 "SaidLeast$State" "words" "[I" ∈ ab_gt := ab_gt_in (by decide +kernel) rfl
theorem lk5_15 : Cond.fieldLink "SaidLeast$State" 15 "SaidLeast$State" "last" "I" ∈ ab_gt := ab_gt_in (by decide +kernel) rfl
theorem lo5 : Cond.methodLink "SaidLeast$State" 3 Lib.objectInit ∈ ab_gt := ab_gt_in (by decide +kernel) rfl
def cw5 (cA : Nat → ClassId) (h0 : Nat) (q : Nat → Nat) : va_W := [(h0, .inr (4, [.ref (q 0), .int 0, .int 0, .int (-9), .int 0])), ((q 0), .inl (cA 100, 6, .inl (fun _ => 0)))]
set_option maxHeartbeats 8000000 in
set_option maxRecDepth 100000 in
theorem ct_5 (l : Launch) (dC : Nat → ClassId) (dI : Nat → Nat → Nat) (cA : Nat → ClassId) : ct_Met l dC dI cA 5 4 1 1 6 (cw5 cA) := by
  refine ct_open (idx := 3) ⟨by decide, by decide, by decide, by decide⟩ dk5_0 dk5_1 lo5 rfl rfl (by decide) (by decide) ?_
  intro p e s m below meth c ls h0 A Q X hin hW hl fin
  have hx := X.1
  have hb := X.2.1
  have hW : ct_Wd dC dI A s [(h0, .inr (4, [.null, .int 0, .int 0, .int 0, .int 0]))] s.heap [] := hW
  generalize hH0 : s.heap = H at hW ⊢
  generalize hL0 : ([] : List Loc) = locs at hW ⊢
  refine lv_aload_n hx hb dk5_4 rfl (lv_at hl 0 rfl) ?_
  refine lv_bipush (v := 6) hx hb dk5_5 (by decide) ?_
  refine ct_newa (t0 := 0) (kd := 100) (N := 6) (ty := .int) (a0 := (6, .inl (fun _ => 0))) X rfl rfl (Or.inl rfl) ct_ai (fun _ => rfl) (by decide) (by decide) (by decide) (Nat.le_of_ble_eq_true rfl) (Nat.le_of_ble_eq_true rfl) hW dk5_7 (fun q0 H hW => ?_)
  have hW : ct_Wd dC dI A s [(h0, .inr (4, [.null, .int 0, .int 0, .int 0, .int 0])), (q0, .inl (cA 100, 6, .inl (fun _ => 0)))] H locs := hW
  refine W.widen (k := 1) (n := 6) (Nat.le_of_ble_eq_true rfl) (Nat.le_of_ble_eq_true rfl) ?_
  refine ct_putF (ci := 4) (k := 0) (C := "SaidLeast$State") (T := ab_T4) (ty := (.array .int)) X hin rfl (by decide) lk5_9 rfl rfl rfl (by decide +kernel) rfl rfl (Nat.le_of_ble_eq_true rfl) hW dk5_9 (fun H locs hW => ?_)
  have hW : ct_Wd dC dI A s [(h0, .inr (4, [.ref q0, .int 0, .int 0, .int 0, .int 0])), (q0, .inl (cA 100, 6, .inl (fun _ => 0)))] H locs := hW
  refine lv_aload_n hx hb dk5_12 rfl (lv_at hl 0 rfl) ?_
  refine lv_bipush (v := -9) hx hb dk5_13 (by decide) ?_
  refine ct_put (ci := 4) (k := 3) (C := "SaidLeast$State") (T := ab_T4) (ty := .int) (v := .int (-9)) X rfl (by decide) lk5_15 rfl rfl rfl (by decide +kernel) rfl rfl (Nat.le_of_ble_eq_true rfl) hW dk5_15 (fun H locs hW => ?_)
  have hW : ct_Wd dC dI A s [(h0, .inr (4, [.ref q0, .int 0, .int 0, .int (-9), .int 0])), (q0, .inl (cA 100, 6, .inl (fun _ => 0)))] H locs := hW
  exact fin 18 ls (fun k => [q0].getD k 0) H locs hW dk5_18
theorem dk4_0 : decode (ab_C 4) 0 = .ok (.aload_n 0, 1) := by decide +kernel
theorem dk4_1 : decode (ab_C 4) 1 = .ok (.invokespecial 3, 3) := by decide +kernel
theorem dk4_4 : decode (ab_C 4) 4 = .ok (.aload_n 0, 1) := by decide +kernel
theorem dk4_5 : decode (ab_C 4) 5 = .ok (.bipush 8, 2) := by decide +kernel
theorem dk4_7 : decode (ab_C 4) 7 = .ok (.newarray .int, 2) := by decide +kernel
theorem dk4_9 : decode (ab_C 4) 9 = .ok (.putfield 9, 3) := by decide +kernel
theorem dk4_12 : decode (ab_C 4) 12 = .ok (.aload_n 0, 1) := by decide +kernel
theorem dk4_13 : decode (ab_C 4) 13 = .ok (.bipush 8, 2) := by decide +kernel
theorem dk4_15 : decode (ab_C 4) 15 = .ok (.newarray .int, 2) := by decide +kernel
theorem dk4_17 : decode (ab_C 4) 17 = .ok (.putfield 15, 3) := by decide +kernel
theorem dk4_20 : decode (ab_C 4) 20 = .ok (.aload_n 0, 1) := by decide +kernel
theorem dk4_21 : decode (ab_C 4) 21 = .ok (.bipush 8, 2) := by decide +kernel
theorem dk4_23 : decode (ab_C 4) 23 = .ok (.newarray .int, 2) := by decide +kernel
theorem dk4_25 : decode (ab_C 4) 25 = .ok (.putfield 18, 3) := by decide +kernel
theorem dk4_28 : decode (ab_C 4) 28 = .ok (.aload_n 0, 1) := by decide +kernel
theorem dk4_29 : decode (ab_C 4) 29 = .ok (.bipush 8, 2) := by decide +kernel
theorem dk4_31 : decode (ab_C 4) 31 = .ok (.newarray .int, 2) := by decide +kernel
theorem dk4_33 : decode (ab_C 4) 33 = .ok (.putfield 21, 3) := by decide +kernel
theorem dk4_36 : decode (ab_C 4) 36 = .ok (.return_, 1) := by decide +kernel
theorem lk4_9 : Cond.fieldLink "SaidLeast$Told" 9 "SaidLeast$Told" "speaker" "[I" ∈ ab_gt := ab_gt_in (by decide +kernel) rfl
theorem lk4_15 : Cond.fieldLink "SaidLeast$Told" 15 "SaidLeast$Told" "words" "[I" ∈ ab_gt := ab_gt_in (by decide +kernel) rfl
theorem lk4_18 : Cond.fieldLink "SaidLeast$Told" 18 "SaidLeast$Told" "worth" "[I" ∈ ab_gt := ab_gt_in (by decide +kernel) rfl
theorem lk4_21 : Cond.fieldLink "SaidLeast$Told" 21 "SaidLeast$Told" "answers" "[I" ∈ ab_gt := ab_gt_in (by decide +kernel) rfl
theorem lo4 : Cond.methodLink "SaidLeast$Told" 3 Lib.objectInit ∈ ab_gt := ab_gt_in (by decide +kernel) rfl
def cw4 (cA : Nat → ClassId) (h0 : Nat) (q : Nat → Nat) : va_W := [(h0, .inr (3, [.ref (q 0), .ref (q 1), .ref (q 2), .ref (q 3), .int 0, .int 0])), ((q 0), .inl (cA 100, 8, .inl (fun _ => 0))), ((q 1), .inl (cA 100, 8, .inl (fun _ => 0))), ((q 2), .inl (cA 100, 8, .inl (fun _ => 0))), ((q 3), .inl (cA 100, 8, .inl (fun _ => 0)))]
set_option maxHeartbeats 8000000 in
set_option maxRecDepth 100000 in
theorem ct_4 (l : Launch) (dC : Nat → ClassId) (dI : Nat → Nat → Nat) (cA : Nat → ClassId) : ct_Met l dC dI cA 4 3 1 4 32 (cw4 cA) := by
  refine ct_open (idx := 3) ⟨by decide, by decide, by decide, by decide⟩ dk4_0 dk4_1 lo4 rfl rfl (by decide) (by decide) ?_
  intro p e s m below meth c ls h0 A Q X hin hW hl fin
  have hx := X.1
  have hb := X.2.1
  have hW : ct_Wd dC dI A s [(h0, .inr (3, [.null, .null, .null, .null, .int 0, .int 0]))] s.heap [] := hW
  generalize hH0 : s.heap = H at hW ⊢
  generalize hL0 : ([] : List Loc) = locs at hW ⊢
  refine lv_aload_n hx hb dk4_4 rfl (lv_at hl 0 rfl) ?_
  refine lv_bipush (v := 8) hx hb dk4_5 (by decide) ?_
  refine ct_newa (t0 := 0) (kd := 100) (N := 8) (ty := .int) (a0 := (8, .inl (fun _ => 0))) X rfl rfl (Or.inl rfl) ct_ai (fun _ => rfl) (by decide) (by decide) (by decide) (Nat.le_of_ble_eq_true rfl) (Nat.le_of_ble_eq_true rfl) hW dk4_7 (fun q0 H hW => ?_)
  have hW : ct_Wd dC dI A s [(h0, .inr (3, [.null, .null, .null, .null, .int 0, .int 0])), (q0, .inl (cA 100, 8, .inl (fun _ => 0)))] H locs := hW
  refine W.widen (k := 1) (n := 8) (Nat.le_of_ble_eq_true rfl) (Nat.le_of_ble_eq_true rfl) ?_
  refine ct_putF (ci := 3) (k := 0) (C := "SaidLeast$Told") (T := ab_T3) (ty := (.array .int)) X hin rfl (by decide) lk4_9 rfl rfl rfl (by decide +kernel) rfl rfl (Nat.le_of_ble_eq_true rfl) hW dk4_9 (fun H locs hW => ?_)
  have hW : ct_Wd dC dI A s [(h0, .inr (3, [.ref q0, .null, .null, .null, .int 0, .int 0])), (q0, .inl (cA 100, 8, .inl (fun _ => 0)))] H locs := hW
  refine lv_aload_n hx hb dk4_12 rfl (lv_at hl 0 rfl) ?_
  refine lv_bipush (v := 8) hx hb dk4_13 (by decide) ?_
  refine ct_newa (t0 := 0) (kd := 100) (N := 8) (ty := .int) (a0 := (8, .inl (fun _ => 0))) X rfl rfl (Or.inl rfl) ct_ai (fun _ => rfl) (by decide) (by decide) (by decide) (Nat.le_of_ble_eq_true rfl) (Nat.le_of_ble_eq_true rfl) hW dk4_15 (fun q1 H hW => ?_)
  have hW : ct_Wd dC dI A s [(h0, .inr (3, [.ref q0, .null, .null, .null, .int 0, .int 0])), (q0, .inl (cA 100, 8, .inl (fun _ => 0))), (q1, .inl (cA 100, 8, .inl (fun _ => 0)))] H locs := hW
  refine W.widen (k := 2) (n := 16) (Nat.le_of_ble_eq_true rfl) (Nat.le_of_ble_eq_true rfl) ?_
  refine ct_putF (ci := 3) (k := 1) (C := "SaidLeast$Told") (T := ab_T3) (ty := (.array .int)) X hin rfl (by decide) lk4_15 rfl rfl rfl (by decide +kernel) rfl rfl (Nat.le_of_ble_eq_true rfl) hW dk4_17 (fun H locs hW => ?_)
  have hW : ct_Wd dC dI A s [(h0, .inr (3, [.ref q0, .ref q1, .null, .null, .int 0, .int 0])), (q0, .inl (cA 100, 8, .inl (fun _ => 0))), (q1, .inl (cA 100, 8, .inl (fun _ => 0)))] H locs := hW
  refine lv_aload_n hx hb dk4_20 rfl (lv_at hl 0 rfl) ?_
  refine lv_bipush (v := 8) hx hb dk4_21 (by decide) ?_
  refine ct_newa (t0 := 0) (kd := 100) (N := 8) (ty := .int) (a0 := (8, .inl (fun _ => 0))) X rfl rfl (Or.inl rfl) ct_ai (fun _ => rfl) (by decide) (by decide) (by decide) (Nat.le_of_ble_eq_true rfl) (Nat.le_of_ble_eq_true rfl) hW dk4_23 (fun q2 H hW => ?_)
  have hW : ct_Wd dC dI A s [(h0, .inr (3, [.ref q0, .ref q1, .null, .null, .int 0, .int 0])), (q0, .inl (cA 100, 8, .inl (fun _ => 0))), (q1, .inl (cA 100, 8, .inl (fun _ => 0))), (q2, .inl (cA 100, 8, .inl (fun _ => 0)))] H locs := hW
  refine W.widen (k := 3) (n := 24) (Nat.le_of_ble_eq_true rfl) (Nat.le_of_ble_eq_true rfl) ?_
  refine ct_putF (ci := 3) (k := 2) (C := "SaidLeast$Told") (T := ab_T3) (ty := (.array .int)) X hin rfl (by decide) lk4_18 rfl rfl rfl (by decide +kernel) rfl rfl (Nat.le_of_ble_eq_true rfl) hW dk4_25 (fun H locs hW => ?_)
  have hW : ct_Wd dC dI A s [(h0, .inr (3, [.ref q0, .ref q1, .ref q2, .null, .int 0, .int 0])), (q0, .inl (cA 100, 8, .inl (fun _ => 0))), (q1, .inl (cA 100, 8, .inl (fun _ => 0))), (q2, .inl (cA 100, 8, .inl (fun _ => 0)))] H locs := hW
  refine lv_aload_n hx hb dk4_28 rfl (lv_at hl 0 rfl) ?_
  refine lv_bipush (v := 8) hx hb dk4_29 (by decide) ?_
  refine ct_newa (t0 := 0) (kd := 100) (N := 8) (ty := .int) (a0 := (8, .inl (fun _ => 0))) X rfl rfl (Or.inl rfl) ct_ai (fun _ => rfl) (by decide) (by decide) (by decide) (Nat.le_of_ble_eq_true rfl) (Nat.le_of_ble_eq_true rfl) hW dk4_31 (fun q3 H hW => ?_)
  have hW : ct_Wd dC dI A s [(h0, .inr (3, [.ref q0, .ref q1, .ref q2, .null, .int 0, .int 0])), (q0, .inl (cA 100, 8, .inl (fun _ => 0))), (q1, .inl (cA 100, 8, .inl (fun _ => 0))), (q2, .inl (cA 100, 8, .inl (fun _ => 0))), (q3, .inl (cA 100, 8, .inl (fun _ => 0)))] H locs := hW
  refine W.widen (k := 4) (n := 32) (Nat.le_of_ble_eq_true rfl) (Nat.le_of_ble_eq_true rfl) ?_
  refine ct_putF (ci := 3) (k := 3) (C := "SaidLeast$Told") (T := ab_T3) (ty := (.array .int)) X hin rfl (by decide) lk4_21 rfl rfl rfl (by decide +kernel) rfl rfl (Nat.le_of_ble_eq_true rfl) hW dk4_33 (fun H locs hW => ?_)
  have hW : ct_Wd dC dI A s [(h0, .inr (3, [.ref q0, .ref q1, .ref q2, .ref q3, .int 0, .int 0])), (q0, .inl (cA 100, 8, .inl (fun _ => 0))), (q1, .inl (cA 100, 8, .inl (fun _ => 0))), (q2, .inl (cA 100, 8, .inl (fun _ => 0))), (q3, .inl (cA 100, 8, .inl (fun _ => 0)))] H locs := hW
  exact fin 36 ls (fun k => [q0, q1, q2, q3].getD k 0) H locs hW dk4_36
theorem dk2_0 : decode (ab_C 2) 0 = .ok (.aload_n 0, 1) := by decide +kernel
theorem dk2_1 : decode (ab_C 2) 1 = .ok (.invokespecial 3, 3) := by decide +kernel
theorem dk2_4 : decode (ab_C 2) 4 = .ok (.aload_n 0, 1) := by decide +kernel
theorem dk2_5 : decode (ab_C 2) 5 = .ok (.bipush 64, 2) := by decide +kernel
theorem dk2_7 : decode (ab_C 2) 7 = .ok (.newarray .byte, 2) := by decide +kernel
theorem dk2_9 : decode (ab_C 2) 9 = .ok (.putfield 9, 3) := by decide +kernel
theorem dk2_12 : decode (ab_C 2) 12 = .ok (.return_, 1) := by decide +kernel
theorem lk2_9 : Cond.fieldLink "SaidLeast$Text" 9 "SaidLeast$Text" "bytes" "[B" ∈ ab_gt := ab_gt_in (by decide +kernel) rfl
theorem lo2 : Cond.methodLink "SaidLeast$Text" 3 Lib.objectInit ∈ ab_gt := ab_gt_in (by decide +kernel) rfl
def cw2 (cA : Nat → ClassId) (h0 : Nat) (q : Nat → Nat) : va_W := [(h0, .inr (1, [.ref (q 0), .int 0])), ((q 0), .inl (cA 101, 64, .inl (fun _ => 0)))]
set_option maxHeartbeats 8000000 in
set_option maxRecDepth 100000 in
theorem ct_2 (l : Launch) (dC : Nat → ClassId) (dI : Nat → Nat → Nat) (cA : Nat → ClassId) : ct_Met l dC dI cA 2 1 1 1 64 (cw2 cA) := by
  refine ct_open (idx := 3) ⟨by decide, by decide, by decide, by decide⟩ dk2_0 dk2_1 lo2 rfl rfl (by decide) (by decide) ?_
  intro p e s m below meth c ls h0 A Q X hin hW hl fin
  have hx := X.1
  have hb := X.2.1
  have hW : ct_Wd dC dI A s [(h0, .inr (1, [.null, .int 0]))] s.heap [] := hW
  generalize hH0 : s.heap = H at hW ⊢
  generalize hL0 : ([] : List Loc) = locs at hW ⊢
  refine lv_aload_n hx hb dk2_4 rfl (lv_at hl 0 rfl) ?_
  refine lv_bipush (v := 64) hx hb dk2_5 (by decide) ?_
  refine ct_newa (t0 := 1) (kd := 101) (N := 64) (ty := .byte) (a0 := (64, .inl (fun _ => 0))) X rfl rfl (Or.inr (Or.inl rfl)) ct_ab (fun _ => rfl) (by decide) (by decide) (by decide) (Nat.le_of_ble_eq_true rfl) (Nat.le_of_ble_eq_true rfl) hW dk2_7 (fun q0 H hW => ?_)
  have hW : ct_Wd dC dI A s [(h0, .inr (1, [.null, .int 0])), (q0, .inl (cA 101, 64, .inl (fun _ => 0)))] H locs := hW
  refine W.widen (k := 1) (n := 64) (Nat.le_of_ble_eq_true rfl) (Nat.le_of_ble_eq_true rfl) ?_
  refine ct_putF (ci := 1) (k := 0) (C := "SaidLeast$Text") (T := ab_T1) (ty := (.array .byte)) X hin rfl (by decide) lk2_9 rfl rfl rfl (by decide +kernel) rfl rfl (Nat.le_of_ble_eq_true rfl) hW dk2_9 (fun H locs hW => ?_)
  have hW : ct_Wd dC dI A s [(h0, .inr (1, [.ref q0, .int 0])), (q0, .inl (cA 101, 64, .inl (fun _ => 0)))] H locs := hW
  exact fin 12 ls (fun k => [q0].getD k 0) H locs hW dk2_12
theorem dk6_0 : decode (ab_C 6) 0 = .ok (.aload_n 0, 1) := by decide +kernel
theorem dk6_1 : decode (ab_C 6) 1 = .ok (.invokespecial 3, 3) := by decide +kernel
theorem dk6_4 : decode (ab_C 6) 4 = .ok (.aload_n 0, 1) := by decide +kernel
theorem dk6_5 : decode (ab_C 6) 5 = .ok (.bipush 12, 2) := by decide +kernel
theorem dk6_7 : decode (ab_C 6) 7 = .ok (.newarray .int, 2) := by decide +kernel
theorem dk6_9 : decode (ab_C 6) 9 = .ok (.putfield 9, 3) := by decide +kernel
theorem dk6_12 : decode (ab_C 6) 12 = .ok (.aload_n 0, 1) := by decide +kernel
theorem dk6_13 : decode (ab_C 6) 13 = .ok (.bipush 12, 2) := by decide +kernel
theorem dk6_15 : decode (ab_C 6) 15 = .ok (.newarray .int, 2) := by decide +kernel
theorem dk6_17 : decode (ab_C 6) 17 = .ok (.putfield 15, 3) := by decide +kernel
theorem dk6_20 : decode (ab_C 6) 20 = .ok (.aload_n 0, 1) := by decide +kernel
theorem dk6_21 : decode (ab_C 6) 21 = .ok (.bipush 12, 2) := by decide +kernel
theorem dk6_23 : decode (ab_C 6) 23 = .ok (.newarray .int, 2) := by decide +kernel
theorem dk6_25 : decode (ab_C 6) 25 = .ok (.putfield 18, 3) := by decide +kernel
theorem dk6_28 : decode (ab_C 6) 28 = .ok (.aload_n 0, 1) := by decide +kernel
theorem dk6_29 : decode (ab_C 6) 29 = .ok (.bipush 12, 2) := by decide +kernel
theorem dk6_31 : decode (ab_C 6) 31 = .ok (.newarray .int, 2) := by decide +kernel
theorem dk6_33 : decode (ab_C 6) 33 = .ok (.putfield 21, 3) := by decide +kernel
theorem dk6_36 : decode (ab_C 6) 36 = .ok (.aload_n 0, 1) := by decide +kernel
theorem dk6_37 : decode (ab_C 6) 37 = .ok (.bipush 12, 2) := by decide +kernel
theorem dk6_39 : decode (ab_C 6) 39 = .ok (.newarray .int, 2) := by decide +kernel
theorem dk6_41 : decode (ab_C 6) 41 = .ok (.putfield 24, 3) := by decide +kernel
theorem dk6_44 : decode (ab_C 6) 44 = .ok (.return_, 1) := by decide +kernel
theorem lk6_9 : Cond.fieldLink "SaidLeast$Acts" 9 "SaidLeast$Acts" "person" "[I" ∈ ab_gt := ab_gt_in (by decide +kernel) rfl
theorem lk6_15 : Cond.fieldLink "SaidLeast$Acts" 15 "SaidLeast$Acts" "words" "[I" ∈ ab_gt := ab_gt_in (by decide +kernel) rfl
theorem lk6_18 : Cond.fieldLink "SaidLeast$Acts" 18 "SaidLeast$Acts" "there" "[I" ∈ ab_gt := ab_gt_in (by decide +kernel) rfl
theorem lk6_21 : Cond.fieldLink "SaidLeast$Acts" 21 "SaidLeast$Acts" "said" "[I" ∈ ab_gt := ab_gt_in (by decide +kernel) rfl
theorem lk6_24 : Cond.fieldLink "SaidLeast$Acts" 24 "SaidLeast$Acts" "last" "[I" ∈ ab_gt := ab_gt_in (by decide +kernel) rfl
theorem lo6 : Cond.methodLink "SaidLeast$Acts" 3 Lib.objectInit ∈ ab_gt := ab_gt_in (by decide +kernel) rfl
def cw6 (cA : Nat → ClassId) (h0 : Nat) (q : Nat → Nat) : va_W := [(h0, .inr (5, [.ref (q 0), .ref (q 1), .ref (q 2), .ref (q 3), .ref (q 4), .int 0, .int 0])), ((q 0), .inl (cA 100, 12, .inl (fun _ => 0))), ((q 1), .inl (cA 100, 12, .inl (fun _ => 0))), ((q 2), .inl (cA 100, 12, .inl (fun _ => 0))), ((q 3), .inl (cA 100, 12, .inl (fun _ => 0))), ((q 4), .inl (cA 100, 12, .inl (fun _ => 0)))]
set_option maxHeartbeats 8000000 in
set_option maxRecDepth 100000 in
theorem ct_6 (l : Launch) (dC : Nat → ClassId) (dI : Nat → Nat → Nat) (cA : Nat → ClassId) : ct_Met l dC dI cA 6 5 1 5 60 (cw6 cA) := by
  refine ct_open (idx := 3) ⟨by decide, by decide, by decide, by decide⟩ dk6_0 dk6_1 lo6 rfl rfl (by decide) (by decide) ?_
  intro p e s m below meth c ls h0 A Q X hin hW hl fin
  have hx := X.1
  have hb := X.2.1
  have hW : ct_Wd dC dI A s [(h0, .inr (5, [.null, .null, .null, .null, .null, .int 0, .int 0]))] s.heap [] := hW
  generalize hH0 : s.heap = H at hW ⊢
  generalize hL0 : ([] : List Loc) = locs at hW ⊢
  refine lv_aload_n hx hb dk6_4 rfl (lv_at hl 0 rfl) ?_
  refine lv_bipush (v := 12) hx hb dk6_5 (by decide) ?_
  refine ct_newa (t0 := 0) (kd := 100) (N := 12) (ty := .int) (a0 := (12, .inl (fun _ => 0))) X rfl rfl (Or.inl rfl) ct_ai (fun _ => rfl) (by decide) (by decide) (by decide) (Nat.le_of_ble_eq_true rfl) (Nat.le_of_ble_eq_true rfl) hW dk6_7 (fun q0 H hW => ?_)
  have hW : ct_Wd dC dI A s [(h0, .inr (5, [.null, .null, .null, .null, .null, .int 0, .int 0])), (q0, .inl (cA 100, 12, .inl (fun _ => 0)))] H locs := hW
  refine W.widen (k := 1) (n := 12) (Nat.le_of_ble_eq_true rfl) (Nat.le_of_ble_eq_true rfl) ?_
  refine ct_putF (ci := 5) (k := 0) (C := "SaidLeast$Acts") (T := ab_T5) (ty := (.array .int)) X hin rfl (by decide) lk6_9 rfl rfl rfl (by decide +kernel) rfl rfl (Nat.le_of_ble_eq_true rfl) hW dk6_9 (fun H locs hW => ?_)
  have hW : ct_Wd dC dI A s [(h0, .inr (5, [.ref q0, .null, .null, .null, .null, .int 0, .int 0])), (q0, .inl (cA 100, 12, .inl (fun _ => 0)))] H locs := hW
  refine lv_aload_n hx hb dk6_12 rfl (lv_at hl 0 rfl) ?_
  refine lv_bipush (v := 12) hx hb dk6_13 (by decide) ?_
  refine ct_newa (t0 := 0) (kd := 100) (N := 12) (ty := .int) (a0 := (12, .inl (fun _ => 0))) X rfl rfl (Or.inl rfl) ct_ai (fun _ => rfl) (by decide) (by decide) (by decide) (Nat.le_of_ble_eq_true rfl) (Nat.le_of_ble_eq_true rfl) hW dk6_15 (fun q1 H hW => ?_)
  have hW : ct_Wd dC dI A s [(h0, .inr (5, [.ref q0, .null, .null, .null, .null, .int 0, .int 0])), (q0, .inl (cA 100, 12, .inl (fun _ => 0))), (q1, .inl (cA 100, 12, .inl (fun _ => 0)))] H locs := hW
  refine W.widen (k := 2) (n := 24) (Nat.le_of_ble_eq_true rfl) (Nat.le_of_ble_eq_true rfl) ?_
  refine ct_putF (ci := 5) (k := 1) (C := "SaidLeast$Acts") (T := ab_T5) (ty := (.array .int)) X hin rfl (by decide) lk6_15 rfl rfl rfl (by decide +kernel) rfl rfl (Nat.le_of_ble_eq_true rfl) hW dk6_17 (fun H locs hW => ?_)
  have hW : ct_Wd dC dI A s [(h0, .inr (5, [.ref q0, .ref q1, .null, .null, .null, .int 0, .int 0])), (q0, .inl (cA 100, 12, .inl (fun _ => 0))), (q1, .inl (cA 100, 12, .inl (fun _ => 0)))] H locs := hW
  refine lv_aload_n hx hb dk6_20 rfl (lv_at hl 0 rfl) ?_
  refine lv_bipush (v := 12) hx hb dk6_21 (by decide) ?_
  refine ct_newa (t0 := 0) (kd := 100) (N := 12) (ty := .int) (a0 := (12, .inl (fun _ => 0))) X rfl rfl (Or.inl rfl) ct_ai (fun _ => rfl) (by decide) (by decide) (by decide) (Nat.le_of_ble_eq_true rfl) (Nat.le_of_ble_eq_true rfl) hW dk6_23 (fun q2 H hW => ?_)
  have hW : ct_Wd dC dI A s [(h0, .inr (5, [.ref q0, .ref q1, .null, .null, .null, .int 0, .int 0])), (q0, .inl (cA 100, 12, .inl (fun _ => 0))), (q1, .inl (cA 100, 12, .inl (fun _ => 0))), (q2, .inl (cA 100, 12, .inl (fun _ => 0)))] H locs := hW
  refine W.widen (k := 3) (n := 36) (Nat.le_of_ble_eq_true rfl) (Nat.le_of_ble_eq_true rfl) ?_
  refine ct_putF (ci := 5) (k := 2) (C := "SaidLeast$Acts") (T := ab_T5) (ty := (.array .int)) X hin rfl (by decide) lk6_18 rfl rfl rfl (by decide +kernel) rfl rfl (Nat.le_of_ble_eq_true rfl) hW dk6_25 (fun H locs hW => ?_)
  have hW : ct_Wd dC dI A s [(h0, .inr (5, [.ref q0, .ref q1, .ref q2, .null, .null, .int 0, .int 0])), (q0, .inl (cA 100, 12, .inl (fun _ => 0))), (q1, .inl (cA 100, 12, .inl (fun _ => 0))), (q2, .inl (cA 100, 12, .inl (fun _ => 0)))] H locs := hW
  refine lv_aload_n hx hb dk6_28 rfl (lv_at hl 0 rfl) ?_
  refine lv_bipush (v := 12) hx hb dk6_29 (by decide) ?_
  refine ct_newa (t0 := 0) (kd := 100) (N := 12) (ty := .int) (a0 := (12, .inl (fun _ => 0))) X rfl rfl (Or.inl rfl) ct_ai (fun _ => rfl) (by decide) (by decide) (by decide) (Nat.le_of_ble_eq_true rfl) (Nat.le_of_ble_eq_true rfl) hW dk6_31 (fun q3 H hW => ?_)
  have hW : ct_Wd dC dI A s [(h0, .inr (5, [.ref q0, .ref q1, .ref q2, .null, .null, .int 0, .int 0])), (q0, .inl (cA 100, 12, .inl (fun _ => 0))), (q1, .inl (cA 100, 12, .inl (fun _ => 0))), (q2, .inl (cA 100, 12, .inl (fun _ => 0))), (q3, .inl (cA 100, 12, .inl (fun _ => 0)))] H locs := hW
  refine W.widen (k := 4) (n := 48) (Nat.le_of_ble_eq_true rfl) (Nat.le_of_ble_eq_true rfl) ?_
  refine ct_putF (ci := 5) (k := 3) (C := "SaidLeast$Acts") (T := ab_T5) (ty := (.array .int)) X hin rfl (by decide) lk6_21 rfl rfl rfl (by decide +kernel) rfl rfl (Nat.le_of_ble_eq_true rfl) hW dk6_33 (fun H locs hW => ?_)
  have hW : ct_Wd dC dI A s [(h0, .inr (5, [.ref q0, .ref q1, .ref q2, .ref q3, .null, .int 0, .int 0])), (q0, .inl (cA 100, 12, .inl (fun _ => 0))), (q1, .inl (cA 100, 12, .inl (fun _ => 0))), (q2, .inl (cA 100, 12, .inl (fun _ => 0))), (q3, .inl (cA 100, 12, .inl (fun _ => 0)))] H locs := hW
  refine lv_aload_n hx hb dk6_36 rfl (lv_at hl 0 rfl) ?_
  refine lv_bipush (v := 12) hx hb dk6_37 (by decide) ?_
  refine ct_newa (t0 := 0) (kd := 100) (N := 12) (ty := .int) (a0 := (12, .inl (fun _ => 0))) X rfl rfl (Or.inl rfl) ct_ai (fun _ => rfl) (by decide) (by decide) (by decide) (Nat.le_of_ble_eq_true rfl) (Nat.le_of_ble_eq_true rfl) hW dk6_39 (fun q4 H hW => ?_)
  have hW : ct_Wd dC dI A s [(h0, .inr (5, [.ref q0, .ref q1, .ref q2, .ref q3, .null, .int 0, .int 0])), (q0, .inl (cA 100, 12, .inl (fun _ => 0))), (q1, .inl (cA 100, 12, .inl (fun _ => 0))), (q2, .inl (cA 100, 12, .inl (fun _ => 0))), (q3, .inl (cA 100, 12, .inl (fun _ => 0))), (q4, .inl (cA 100, 12, .inl (fun _ => 0)))] H locs := hW
  refine W.widen (k := 5) (n := 60) (Nat.le_of_ble_eq_true rfl) (Nat.le_of_ble_eq_true rfl) ?_
  refine ct_putF (ci := 5) (k := 4) (C := "SaidLeast$Acts") (T := ab_T5) (ty := (.array .int)) X hin rfl (by decide) lk6_24 rfl rfl rfl (by decide +kernel) rfl rfl (Nat.le_of_ble_eq_true rfl) hW dk6_41 (fun H locs hW => ?_)
  have hW : ct_Wd dC dI A s [(h0, .inr (5, [.ref q0, .ref q1, .ref q2, .ref q3, .ref q4, .int 0, .int 0])), (q0, .inl (cA 100, 12, .inl (fun _ => 0))), (q1, .inl (cA 100, 12, .inl (fun _ => 0))), (q2, .inl (cA 100, 12, .inl (fun _ => 0))), (q3, .inl (cA 100, 12, .inl (fun _ => 0))), (q4, .inl (cA 100, 12, .inl (fun _ => 0)))] H locs := hW
  exact fin 44 ls (fun k => [q0, q1, q2, q3, q4].getD k 0) H locs hW dk6_44
theorem dk8_0 : decode (ab_C 8) 0 = .ok (.aload_n 0, 1) := by decide +kernel
theorem dk8_1 : decode (ab_C 8) 1 = .ok (.invokespecial 1, 3) := by decide +kernel
theorem dk8_4 : decode (ab_C 8) 4 = .ok (.aload_n 0, 1) := by decide +kernel
theorem dk8_5 : decode (ab_C 8) 5 = .ok (.new 7, 3) := by decide +kernel
theorem dk8_8 : decode (ab_C 8) 8 = .ok (.dup, 1) := by decide +kernel
theorem dk8_9 : decode (ab_C 8) 9 = .ok (.invokespecial 9, 3) := by decide +kernel
theorem dk8_12 : decode (ab_C 8) 12 = .ok (.putfield 10, 3) := by decide +kernel
theorem dk8_15 : decode (ab_C 8) 15 = .ok (.return_, 1) := by decide +kernel
theorem ln8_7 : Cond.classLink "SaidLeast$Ahead" 7 "SaidLeast$State" ∈ ab_gt := ab_gt_in (by decide +kernel) rfl
theorem lk8_10 : Cond.fieldLink "SaidLeast$Ahead" 10 "SaidLeast$Ahead" "then" "LSaidLeast$State;" ∈ ab_gt := ab_gt_in (by decide +kernel) rfl
theorem lo8 : Cond.methodLink "SaidLeast$Ahead" 1 Lib.objectInit ∈ ab_gt := ab_gt_in (by decide +kernel) rfl
def cw8 (cA : Nat → ClassId) (h0 : Nat) (q : Nat → Nat) : va_W := [(h0, .inr (7, [.ref (q 0)])), ((q 0), .inr (4, [.ref (q 1), .int 0, .int 0, .int (-9), .int 0])), ((q 1), .inl (cA 100, 6, .inl (fun _ => 0)))]
set_option maxHeartbeats 8000000 in
set_option maxRecDepth 100000 in
theorem ct_8 (l : Launch) (dC : Nat → ClassId) (dI : Nat → Nat → Nat) (cA : Nat → ClassId) : ct_Met l dC dI cA 8 7 2 2 11 (cw8 cA) := by
  refine ct_open (idx := 1) ⟨by decide, by decide, by decide, by decide⟩ dk8_0 dk8_1 lo8 rfl rfl (by decide) (by decide) ?_
  intro p e s m below meth c ls h0 A Q X hin hW hl fin
  have hx := X.1
  have hb := X.2.1
  have hW : ct_Wd dC dI A s [(h0, .inr (7, [.null]))] s.heap [] := hW
  generalize hH0 : s.heap = H at hW ⊢
  generalize hL0 : ([] : List Loc) = locs at hW ⊢
  refine lv_aload_n hx hb dk8_4 rfl (lv_at hl 0 rfl) ?_
  refine ct_mk (ci := 4) (mc := 1) (ms := 6) (C := "SaidLeast$State") (T := ab_T4) (Wf := cw5 cA) X (by decide) rfl ln8_7 li4 ls4 hW (Nat.le_of_ble_eq_true rfl) (Nat.le_of_ble_eq_true rfl) dk8_5 dk8_8 (fun b H1 locs1 hp => ct_callN (M' := 5) (d := 1) (jdx := 9) X hl.1 (ct_5 l dC dI cA) (by decide) ⟨by decide, by decide, by decide, by decide⟩ lm5 ls4 rfl (by decide +kernel) rfl ⟨Nat.le_of_ble_eq_true rfl, Nat.le_of_ble_eq_true rfl⟩ (Nat.le_of_ble_eq_true rfl) dk8_9 ⟨Nat.le_of_ble_eq_true rfl, Nat.le_of_ble_eq_true rfl⟩ b H1 locs1 hp) (fun q0 f0 H locs hW => ?_)
  have hW : ct_Wd dC dI A s [(h0, .inr (7, [.null])), (q0, .inr (4, [.ref (f0 0), .int 0, .int 0, .int (-9), .int 0])), ((f0 0), .inl (cA 100, 6, .inl (fun _ => 0)))] H locs := hW
  refine W.widen (k := 2) (n := 11) (Nat.le_of_ble_eq_true rfl) (Nat.le_of_ble_eq_true rfl) ?_
  refine ct_putF (ci := 7) (k := 0) (C := "SaidLeast$Ahead") (T := ab_T7) (ty := (.object "SaidLeast$State")) X hin rfl (by decide) lk8_10 rfl rfl rfl (by decide +kernel) rfl rfl (Nat.le_of_ble_eq_true rfl) hW dk8_12 (fun H locs hW => ?_)
  have hW : ct_Wd dC dI A s [(h0, .inr (7, [.ref q0])), (q0, .inr (4, [.ref (f0 0), .int 0, .int 0, .int (-9), .int 0])), ((f0 0), .inl (cA 100, 6, .inl (fun _ => 0)))] H locs := hW
  exact fin 15 ls (fun k => [q0, (f0 0)].getD k 0) H locs hW dk8_15
theorem dk3_0 : decode (ab_C 3) 0 = .ok (.aload_n 0, 1) := by decide +kernel
theorem dk3_1 : decode (ab_C 3) 1 = .ok (.invokespecial 3, 3) := by decide +kernel
theorem dk3_4 : decode (ab_C 3) 4 = .ok (.aload_n 0, 1) := by decide +kernel
theorem dk3_5 : decode (ab_C 3) 5 = .ok (.new 9, 3) := by decide +kernel
theorem dk3_8 : decode (ab_C 3) 8 = .ok (.dup, 1) := by decide +kernel
theorem dk3_9 : decode (ab_C 3) 9 = .ok (.invokespecial 11, 3) := by decide +kernel
theorem dk3_12 : decode (ab_C 3) 12 = .ok (.putfield 12, 3) := by decide +kernel
theorem dk3_15 : decode (ab_C 3) 15 = .ok (.aload_n 0, 1) := by decide +kernel
theorem dk3_16 : decode (ab_C 3) 16 = .ok (.new 18, 3) := by decide +kernel
theorem dk3_19 : decode (ab_C 3) 19 = .ok (.dup, 1) := by decide +kernel
theorem dk3_20 : decode (ab_C 3) 20 = .ok (.invokespecial 20, 3) := by decide +kernel
theorem dk3_23 : decode (ab_C 3) 23 = .ok (.putfield 21, 3) := by decide +kernel
theorem dk3_26 : decode (ab_C 3) 26 = .ok (.return_, 1) := by decide +kernel
theorem ln3_9 : Cond.classLink "SaidLeast$Reader" 9 "SaidLeast$Told" ∈ ab_gt := ab_gt_in (by decide +kernel) rfl
theorem lk3_12 : Cond.fieldLink "SaidLeast$Reader" 12 "SaidLeast$Reader" "told" "LSaidLeast$Told;" ∈ ab_gt := ab_gt_in (by decide +kernel) rfl
theorem ln3_18 : Cond.classLink "SaidLeast$Reader" 18 "SaidLeast$State" ∈ ab_gt := ab_gt_in (by decide +kernel) rfl
theorem lk3_21 : Cond.fieldLink "SaidLeast$Reader" 21 "SaidLeast$Reader" "state" "LSaidLeast$State;" ∈ ab_gt := ab_gt_in (by decide +kernel) rfl
theorem lo3 : Cond.methodLink "SaidLeast$Reader" 3 Lib.objectInit ∈ ab_gt := ab_gt_in (by decide +kernel) rfl
def cw3 (cA : Nat → ClassId) (h0 : Nat) (q : Nat → Nat) : va_W := [(h0, .inr (2, [.ref (q 0), .ref (q 5), .int 0, .int 0])), ((q 0), .inr (3, [.ref (q 1), .ref (q 2), .ref (q 3), .ref (q 4), .int 0, .int 0])), ((q 1), .inl (cA 100, 8, .inl (fun _ => 0))), ((q 2), .inl (cA 100, 8, .inl (fun _ => 0))), ((q 3), .inl (cA 100, 8, .inl (fun _ => 0))), ((q 4), .inl (cA 100, 8, .inl (fun _ => 0))), ((q 5), .inr (4, [.ref (q 6), .int 0, .int 0, .int (-9), .int 0])), ((q 6), .inl (cA 100, 6, .inl (fun _ => 0)))]
set_option maxHeartbeats 8000000 in
set_option maxRecDepth 100000 in
theorem ct_3 (l : Launch) (dC : Nat → ClassId) (dI : Nat → Nat → Nat) (cA : Nat → ClassId) : ct_Met l dC dI cA 3 2 2 7 49 (cw3 cA) := by
  refine ct_open (idx := 3) ⟨by decide, by decide, by decide, by decide⟩ dk3_0 dk3_1 lo3 rfl rfl (by decide) (by decide) ?_
  intro p e s m below meth c ls h0 A Q X hin hW hl fin
  have hx := X.1
  have hb := X.2.1
  have hW : ct_Wd dC dI A s [(h0, .inr (2, [.null, .null, .int 0, .int 0]))] s.heap [] := hW
  generalize hH0 : s.heap = H at hW ⊢
  generalize hL0 : ([] : List Loc) = locs at hW ⊢
  refine lv_aload_n hx hb dk3_4 rfl (lv_at hl 0 rfl) ?_
  refine ct_mk (ci := 3) (mc := 4) (ms := 32) (C := "SaidLeast$Told") (T := ab_T3) (Wf := cw4 cA) X (by decide) rfl ln3_9 li3 ls3 hW (Nat.le_of_ble_eq_true rfl) (Nat.le_of_ble_eq_true rfl) dk3_5 dk3_8 (fun b H1 locs1 hp => ct_callN (M' := 4) (d := 1) (jdx := 11) X hl.1 (ct_4 l dC dI cA) (by decide) ⟨by decide, by decide, by decide, by decide⟩ lm4 ls3 rfl (by decide +kernel) rfl ⟨Nat.le_of_ble_eq_true rfl, Nat.le_of_ble_eq_true rfl⟩ (Nat.le_of_ble_eq_true rfl) dk3_9 ⟨Nat.le_of_ble_eq_true rfl, Nat.le_of_ble_eq_true rfl⟩ b H1 locs1 hp) (fun q0 f0 H locs hW => ?_)
  have hW : ct_Wd dC dI A s [(h0, .inr (2, [.null, .null, .int 0, .int 0])), (q0, .inr (3, [.ref (f0 0), .ref (f0 1), .ref (f0 2), .ref (f0 3), .int 0, .int 0])), ((f0 0), .inl (cA 100, 8, .inl (fun _ => 0))), ((f0 1), .inl (cA 100, 8, .inl (fun _ => 0))), ((f0 2), .inl (cA 100, 8, .inl (fun _ => 0))), ((f0 3), .inl (cA 100, 8, .inl (fun _ => 0)))] H locs := hW
  refine W.widen (k := 5) (n := 38) (Nat.le_of_ble_eq_true rfl) (Nat.le_of_ble_eq_true rfl) ?_
  refine ct_putF (ci := 2) (k := 0) (C := "SaidLeast$Reader") (T := ab_T2) (ty := (.object "SaidLeast$Told")) X hin rfl (by decide) lk3_12 rfl rfl rfl (by decide +kernel) rfl rfl (Nat.le_of_ble_eq_true rfl) hW dk3_12 (fun H locs hW => ?_)
  have hW : ct_Wd dC dI A s [(h0, .inr (2, [.ref q0, .null, .int 0, .int 0])), (q0, .inr (3, [.ref (f0 0), .ref (f0 1), .ref (f0 2), .ref (f0 3), .int 0, .int 0])), ((f0 0), .inl (cA 100, 8, .inl (fun _ => 0))), ((f0 1), .inl (cA 100, 8, .inl (fun _ => 0))), ((f0 2), .inl (cA 100, 8, .inl (fun _ => 0))), ((f0 3), .inl (cA 100, 8, .inl (fun _ => 0)))] H locs := hW
  refine lv_aload_n hx hb dk3_15 rfl (lv_at hl 0 rfl) ?_
  refine ct_mk (ci := 4) (mc := 1) (ms := 6) (C := "SaidLeast$State") (T := ab_T4) (Wf := cw5 cA) X (by decide) rfl ln3_18 li4 ls4 hW (Nat.le_of_ble_eq_true rfl) (Nat.le_of_ble_eq_true rfl) dk3_16 dk3_19 (fun b H1 locs1 hp => ct_callN (M' := 5) (d := 1) (jdx := 20) X hl.1 (ct_5 l dC dI cA) (by decide) ⟨by decide, by decide, by decide, by decide⟩ lm5 ls4 rfl (by decide +kernel) rfl ⟨Nat.le_of_ble_eq_true rfl, Nat.le_of_ble_eq_true rfl⟩ (Nat.le_of_ble_eq_true rfl) dk3_20 ⟨Nat.le_of_ble_eq_true rfl, Nat.le_of_ble_eq_true rfl⟩ b H1 locs1 hp) (fun q1 f1 H locs hW => ?_)
  have hW : ct_Wd dC dI A s [(h0, .inr (2, [.ref q0, .null, .int 0, .int 0])), (q0, .inr (3, [.ref (f0 0), .ref (f0 1), .ref (f0 2), .ref (f0 3), .int 0, .int 0])), ((f0 0), .inl (cA 100, 8, .inl (fun _ => 0))), ((f0 1), .inl (cA 100, 8, .inl (fun _ => 0))), ((f0 2), .inl (cA 100, 8, .inl (fun _ => 0))), ((f0 3), .inl (cA 100, 8, .inl (fun _ => 0))), (q1, .inr (4, [.ref (f1 0), .int 0, .int 0, .int (-9), .int 0])), ((f1 0), .inl (cA 100, 6, .inl (fun _ => 0)))] H locs := hW
  refine W.widen (k := 7) (n := 49) (Nat.le_of_ble_eq_true rfl) (Nat.le_of_ble_eq_true rfl) ?_
  refine ct_putF (ci := 2) (k := 1) (C := "SaidLeast$Reader") (T := ab_T2) (ty := (.object "SaidLeast$State")) X hin rfl (by decide) lk3_21 rfl rfl rfl (by decide +kernel) rfl rfl (Nat.le_of_ble_eq_true rfl) hW dk3_23 (fun H locs hW => ?_)
  have hW : ct_Wd dC dI A s [(h0, .inr (2, [.ref q0, .ref q1, .int 0, .int 0])), (q0, .inr (3, [.ref (f0 0), .ref (f0 1), .ref (f0 2), .ref (f0 3), .int 0, .int 0])), ((f0 0), .inl (cA 100, 8, .inl (fun _ => 0))), ((f0 1), .inl (cA 100, 8, .inl (fun _ => 0))), ((f0 2), .inl (cA 100, 8, .inl (fun _ => 0))), ((f0 3), .inl (cA 100, 8, .inl (fun _ => 0))), (q1, .inr (4, [.ref (f1 0), .int 0, .int 0, .int (-9), .int 0])), ((f1 0), .inl (cA 100, 6, .inl (fun _ => 0)))] H locs := hW
  exact fin 26 ls (fun k => [q0, (f0 0), (f0 1), (f0 2), (f0 3), q1, (f1 0)].getD k 0) H locs hW dk3_26
theorem dk7_0 : decode (ab_C 7) 0 = .ok (.aload_n 0, 1) := by decide +kernel
theorem dk7_1 : decode (ab_C 7) 1 = .ok (.invokespecial 3, 3) := by decide +kernel
theorem dk7_4 : decode (ab_C 7) 4 = .ok (.aload_n 0, 1) := by decide +kernel
theorem dk7_5 : decode (ab_C 7) 5 = .ok (.new 9, 3) := by decide +kernel
theorem dk7_8 : decode (ab_C 7) 8 = .ok (.dup, 1) := by decide +kernel
theorem dk7_9 : decode (ab_C 7) 9 = .ok (.invokespecial 11, 3) := by decide +kernel
theorem dk7_12 : decode (ab_C 7) 12 = .ok (.putfield 12, 3) := by decide +kernel
theorem dk7_15 : decode (ab_C 7) 15 = .ok (.aload_n 0, 1) := by decide +kernel
theorem dk7_16 : decode (ab_C 7) 16 = .ok (.sipush 256, 3) := by decide +kernel
theorem dk7_19 : decode (ab_C 7) 19 = .ok (.newarray .int, 2) := by decide +kernel
theorem dk7_21 : decode (ab_C 7) 21 = .ok (.putfield 18, 3) := by decide +kernel
theorem dk7_24 : decode (ab_C 7) 24 = .ok (.aload_n 0, 1) := by decide +kernel
theorem dk7_25 : decode (ab_C 7) 25 = .ok (.sipush 256, 3) := by decide +kernel
theorem dk7_28 : decode (ab_C 7) 28 = .ok (.newarray .int, 2) := by decide +kernel
theorem dk7_30 : decode (ab_C 7) 30 = .ok (.putfield 22, 3) := by decide +kernel
theorem dk7_33 : decode (ab_C 7) 33 = .ok (.aload_n 0, 1) := by decide +kernel
theorem dk7_34 : decode (ab_C 7) 34 = .ok (.sipush 256, 3) := by decide +kernel
theorem dk7_37 : decode (ab_C 7) 37 = .ok (.newarray .int, 2) := by decide +kernel
theorem dk7_39 : decode (ab_C 7) 39 = .ok (.putfield 25, 3) := by decide +kernel
theorem dk7_42 : decode (ab_C 7) 42 = .ok (.aload_n 0, 1) := by decide +kernel
theorem dk7_43 : decode (ab_C 7) 43 = .ok (.sipush 256, 3) := by decide +kernel
theorem dk7_46 : decode (ab_C 7) 46 = .ok (.newarray .int, 2) := by decide +kernel
theorem dk7_48 : decode (ab_C 7) 48 = .ok (.putfield 28, 3) := by decide +kernel
theorem dk7_51 : decode (ab_C 7) 51 = .ok (.aload_n 0, 1) := by decide +kernel
theorem dk7_52 : decode (ab_C 7) 52 = .ok (.sipush 256, 3) := by decide +kernel
theorem dk7_55 : decode (ab_C 7) 55 = .ok (.newarray .int, 2) := by decide +kernel
theorem dk7_57 : decode (ab_C 7) 57 = .ok (.putfield 31, 3) := by decide +kernel
theorem dk7_60 : decode (ab_C 7) 60 = .ok (.return_, 1) := by decide +kernel
theorem ln7_9 : Cond.classLink "SaidLeast$Orders" 9 "SaidLeast$Ahead" ∈ ab_gt := ab_gt_in (by decide +kernel) rfl
theorem lk7_12 : Cond.fieldLink "SaidLeast$Orders" 12 "SaidLeast$Orders" "ahead" "LSaidLeast$Ahead;" ∈ ab_gt := ab_gt_in (by decide +kernel) rfl
theorem lk7_18 : Cond.fieldLink "SaidLeast$Orders" 18 "SaidLeast$Orders" "lasts" "[I" ∈ ab_gt := ab_gt_in (by decide +kernel) rfl
theorem lk7_22 : Cond.fieldLink "SaidLeast$Orders" 22 "SaidLeast$Orders" "open" "[I" ∈ ab_gt := ab_gt_in (by decide +kernel) rfl
theorem lk7_25 : Cond.fieldLink "SaidLeast$Orders" 25 "SaidLeast$Orders" "spent" "[I" ∈ ab_gt := ab_gt_in (by decide +kernel) rfl
theorem lk7_28 : Cond.fieldLink "SaidLeast$Orders" 28 "SaidLeast$Orders" "gained" "[I" ∈ ab_gt := ab_gt_in (by decide +kernel) rfl
theorem lk7_31 : Cond.fieldLink "SaidLeast$Orders" 31 "SaidLeast$Orders" "good" "[I" ∈ ab_gt := ab_gt_in (by decide +kernel) rfl
theorem lo7 : Cond.methodLink "SaidLeast$Orders" 3 Lib.objectInit ∈ ab_gt := ab_gt_in (by decide +kernel) rfl
def cw7 (cA : Nat → ClassId) (h0 : Nat) (q : Nat → Nat) : va_W := [(h0, .inr (6, [.ref (q 0), .ref (q 3), .ref (q 4), .ref (q 5), .ref (q 6), .ref (q 7)])), ((q 0), .inr (7, [.ref (q 1)])), ((q 1), .inr (4, [.ref (q 2), .int 0, .int 0, .int (-9), .int 0])), ((q 2), .inl (cA 100, 6, .inl (fun _ => 0))), ((q 3), .inl (cA 100, 256, .inl (fun _ => 0))), ((q 4), .inl (cA 100, 256, .inl (fun _ => 0))), ((q 5), .inl (cA 100, 256, .inl (fun _ => 0))), ((q 6), .inl (cA 100, 256, .inl (fun _ => 0))), ((q 7), .inl (cA 100, 256, .inl (fun _ => 0)))]
set_option maxHeartbeats 8000000 in
set_option maxRecDepth 100000 in
theorem ct_7 (l : Launch) (dC : Nat → ClassId) (dI : Nat → Nat → Nat) (cA : Nat → ClassId) : ct_Met l dC dI cA 7 6 3 8 1292 (cw7 cA) := by
  refine ct_open (idx := 3) ⟨by decide, by decide, by decide, by decide⟩ dk7_0 dk7_1 lo7 rfl rfl (by decide) (by decide) ?_
  intro p e s m below meth c ls h0 A Q X hin hW hl fin
  have hx := X.1
  have hb := X.2.1
  have hW : ct_Wd dC dI A s [(h0, .inr (6, [.null, .null, .null, .null, .null, .null]))] s.heap [] := hW
  generalize hH0 : s.heap = H at hW ⊢
  generalize hL0 : ([] : List Loc) = locs at hW ⊢
  refine lv_aload_n hx hb dk7_4 rfl (lv_at hl 0 rfl) ?_
  refine ct_mk (ci := 7) (mc := 2) (ms := 11) (C := "SaidLeast$Ahead") (T := ab_T7) (Wf := cw8 cA) X (by decide) rfl ln7_9 li7 ls7 hW (Nat.le_of_ble_eq_true rfl) (Nat.le_of_ble_eq_true rfl) dk7_5 dk7_8 (fun b H1 locs1 hp => ct_callN (M' := 8) (d := 2) (jdx := 11) X hl.1 (ct_8 l dC dI cA) (by decide) ⟨by decide, by decide, by decide, by decide⟩ lm8 ls7 rfl (by decide +kernel) rfl ⟨Nat.le_of_ble_eq_true rfl, Nat.le_of_ble_eq_true rfl⟩ (Nat.le_of_ble_eq_true rfl) dk7_9 ⟨Nat.le_of_ble_eq_true rfl, Nat.le_of_ble_eq_true rfl⟩ b H1 locs1 hp) (fun q0 f0 H locs hW => ?_)
  have hW : ct_Wd dC dI A s [(h0, .inr (6, [.null, .null, .null, .null, .null, .null])), (q0, .inr (7, [.ref (f0 0)])), ((f0 0), .inr (4, [.ref (f0 1), .int 0, .int 0, .int (-9), .int 0])), ((f0 1), .inl (cA 100, 6, .inl (fun _ => 0)))] H locs := hW
  refine W.widen (k := 3) (n := 12) (Nat.le_of_ble_eq_true rfl) (Nat.le_of_ble_eq_true rfl) ?_
  refine ct_putF (ci := 6) (k := 0) (C := "SaidLeast$Orders") (T := ab_T6) (ty := (.object "SaidLeast$Ahead")) X hin rfl (by decide) lk7_12 rfl rfl rfl (by decide +kernel) rfl rfl (Nat.le_of_ble_eq_true rfl) hW dk7_12 (fun H locs hW => ?_)
  have hW : ct_Wd dC dI A s [(h0, .inr (6, [.ref q0, .null, .null, .null, .null, .null])), (q0, .inr (7, [.ref (f0 0)])), ((f0 0), .inr (4, [.ref (f0 1), .int 0, .int 0, .int (-9), .int 0])), ((f0 1), .inl (cA 100, 6, .inl (fun _ => 0)))] H locs := hW
  refine lv_aload_n hx hb dk7_15 rfl (lv_at hl 0 rfl) ?_
  refine lv_sipush (v := 256) hx hb dk7_16 (by decide) ?_
  refine ct_newa (t0 := 0) (kd := 100) (N := 256) (ty := .int) (a0 := (256, .inl (fun _ => 0))) X rfl rfl (Or.inl rfl) ct_ai (fun _ => rfl) (by decide) (by decide) (by decide) (Nat.le_of_ble_eq_true rfl) (Nat.le_of_ble_eq_true rfl) hW dk7_19 (fun q1 H hW => ?_)
  have hW : ct_Wd dC dI A s [(h0, .inr (6, [.ref q0, .null, .null, .null, .null, .null])), (q0, .inr (7, [.ref (f0 0)])), ((f0 0), .inr (4, [.ref (f0 1), .int 0, .int 0, .int (-9), .int 0])), ((f0 1), .inl (cA 100, 6, .inl (fun _ => 0))), (q1, .inl (cA 100, 256, .inl (fun _ => 0)))] H locs := hW
  refine W.widen (k := 4) (n := 268) (Nat.le_of_ble_eq_true rfl) (Nat.le_of_ble_eq_true rfl) ?_
  refine ct_putF (ci := 6) (k := 1) (C := "SaidLeast$Orders") (T := ab_T6) (ty := (.array .int)) X hin rfl (by decide) lk7_18 rfl rfl rfl (by decide +kernel) rfl rfl (Nat.le_of_ble_eq_true rfl) hW dk7_21 (fun H locs hW => ?_)
  have hW : ct_Wd dC dI A s [(h0, .inr (6, [.ref q0, .ref q1, .null, .null, .null, .null])), (q0, .inr (7, [.ref (f0 0)])), ((f0 0), .inr (4, [.ref (f0 1), .int 0, .int 0, .int (-9), .int 0])), ((f0 1), .inl (cA 100, 6, .inl (fun _ => 0))), (q1, .inl (cA 100, 256, .inl (fun _ => 0)))] H locs := hW
  refine lv_aload_n hx hb dk7_24 rfl (lv_at hl 0 rfl) ?_
  refine lv_sipush (v := 256) hx hb dk7_25 (by decide) ?_
  refine ct_newa (t0 := 0) (kd := 100) (N := 256) (ty := .int) (a0 := (256, .inl (fun _ => 0))) X rfl rfl (Or.inl rfl) ct_ai (fun _ => rfl) (by decide) (by decide) (by decide) (Nat.le_of_ble_eq_true rfl) (Nat.le_of_ble_eq_true rfl) hW dk7_28 (fun q2 H hW => ?_)
  have hW : ct_Wd dC dI A s [(h0, .inr (6, [.ref q0, .ref q1, .null, .null, .null, .null])), (q0, .inr (7, [.ref (f0 0)])), ((f0 0), .inr (4, [.ref (f0 1), .int 0, .int 0, .int (-9), .int 0])), ((f0 1), .inl (cA 100, 6, .inl (fun _ => 0))), (q1, .inl (cA 100, 256, .inl (fun _ => 0))), (q2, .inl (cA 100, 256, .inl (fun _ => 0)))] H locs := hW
  refine W.widen (k := 5) (n := 524) (Nat.le_of_ble_eq_true rfl) (Nat.le_of_ble_eq_true rfl) ?_
  refine ct_putF (ci := 6) (k := 2) (C := "SaidLeast$Orders") (T := ab_T6) (ty := (.array .int)) X hin rfl (by decide) lk7_22 rfl rfl rfl (by decide +kernel) rfl rfl (Nat.le_of_ble_eq_true rfl) hW dk7_30 (fun H locs hW => ?_)
  have hW : ct_Wd dC dI A s [(h0, .inr (6, [.ref q0, .ref q1, .ref q2, .null, .null, .null])), (q0, .inr (7, [.ref (f0 0)])), ((f0 0), .inr (4, [.ref (f0 1), .int 0, .int 0, .int (-9), .int 0])), ((f0 1), .inl (cA 100, 6, .inl (fun _ => 0))), (q1, .inl (cA 100, 256, .inl (fun _ => 0))), (q2, .inl (cA 100, 256, .inl (fun _ => 0)))] H locs := hW
  refine lv_aload_n hx hb dk7_33 rfl (lv_at hl 0 rfl) ?_
  refine lv_sipush (v := 256) hx hb dk7_34 (by decide) ?_
  refine ct_newa (t0 := 0) (kd := 100) (N := 256) (ty := .int) (a0 := (256, .inl (fun _ => 0))) X rfl rfl (Or.inl rfl) ct_ai (fun _ => rfl) (by decide) (by decide) (by decide) (Nat.le_of_ble_eq_true rfl) (Nat.le_of_ble_eq_true rfl) hW dk7_37 (fun q3 H hW => ?_)
  have hW : ct_Wd dC dI A s [(h0, .inr (6, [.ref q0, .ref q1, .ref q2, .null, .null, .null])), (q0, .inr (7, [.ref (f0 0)])), ((f0 0), .inr (4, [.ref (f0 1), .int 0, .int 0, .int (-9), .int 0])), ((f0 1), .inl (cA 100, 6, .inl (fun _ => 0))), (q1, .inl (cA 100, 256, .inl (fun _ => 0))), (q2, .inl (cA 100, 256, .inl (fun _ => 0))), (q3, .inl (cA 100, 256, .inl (fun _ => 0)))] H locs := hW
  refine W.widen (k := 6) (n := 780) (Nat.le_of_ble_eq_true rfl) (Nat.le_of_ble_eq_true rfl) ?_
  refine ct_putF (ci := 6) (k := 3) (C := "SaidLeast$Orders") (T := ab_T6) (ty := (.array .int)) X hin rfl (by decide) lk7_25 rfl rfl rfl (by decide +kernel) rfl rfl (Nat.le_of_ble_eq_true rfl) hW dk7_39 (fun H locs hW => ?_)
  have hW : ct_Wd dC dI A s [(h0, .inr (6, [.ref q0, .ref q1, .ref q2, .ref q3, .null, .null])), (q0, .inr (7, [.ref (f0 0)])), ((f0 0), .inr (4, [.ref (f0 1), .int 0, .int 0, .int (-9), .int 0])), ((f0 1), .inl (cA 100, 6, .inl (fun _ => 0))), (q1, .inl (cA 100, 256, .inl (fun _ => 0))), (q2, .inl (cA 100, 256, .inl (fun _ => 0))), (q3, .inl (cA 100, 256, .inl (fun _ => 0)))] H locs := hW
  refine lv_aload_n hx hb dk7_42 rfl (lv_at hl 0 rfl) ?_
  refine lv_sipush (v := 256) hx hb dk7_43 (by decide) ?_
  refine ct_newa (t0 := 0) (kd := 100) (N := 256) (ty := .int) (a0 := (256, .inl (fun _ => 0))) X rfl rfl (Or.inl rfl) ct_ai (fun _ => rfl) (by decide) (by decide) (by decide) (Nat.le_of_ble_eq_true rfl) (Nat.le_of_ble_eq_true rfl) hW dk7_46 (fun q4 H hW => ?_)
  have hW : ct_Wd dC dI A s [(h0, .inr (6, [.ref q0, .ref q1, .ref q2, .ref q3, .null, .null])), (q0, .inr (7, [.ref (f0 0)])), ((f0 0), .inr (4, [.ref (f0 1), .int 0, .int 0, .int (-9), .int 0])), ((f0 1), .inl (cA 100, 6, .inl (fun _ => 0))), (q1, .inl (cA 100, 256, .inl (fun _ => 0))), (q2, .inl (cA 100, 256, .inl (fun _ => 0))), (q3, .inl (cA 100, 256, .inl (fun _ => 0))), (q4, .inl (cA 100, 256, .inl (fun _ => 0)))] H locs := hW
  refine W.widen (k := 7) (n := 1036) (Nat.le_of_ble_eq_true rfl) (Nat.le_of_ble_eq_true rfl) ?_
  refine ct_putF (ci := 6) (k := 4) (C := "SaidLeast$Orders") (T := ab_T6) (ty := (.array .int)) X hin rfl (by decide) lk7_28 rfl rfl rfl (by decide +kernel) rfl rfl (Nat.le_of_ble_eq_true rfl) hW dk7_48 (fun H locs hW => ?_)
  have hW : ct_Wd dC dI A s [(h0, .inr (6, [.ref q0, .ref q1, .ref q2, .ref q3, .ref q4, .null])), (q0, .inr (7, [.ref (f0 0)])), ((f0 0), .inr (4, [.ref (f0 1), .int 0, .int 0, .int (-9), .int 0])), ((f0 1), .inl (cA 100, 6, .inl (fun _ => 0))), (q1, .inl (cA 100, 256, .inl (fun _ => 0))), (q2, .inl (cA 100, 256, .inl (fun _ => 0))), (q3, .inl (cA 100, 256, .inl (fun _ => 0))), (q4, .inl (cA 100, 256, .inl (fun _ => 0)))] H locs := hW
  refine lv_aload_n hx hb dk7_51 rfl (lv_at hl 0 rfl) ?_
  refine lv_sipush (v := 256) hx hb dk7_52 (by decide) ?_
  refine ct_newa (t0 := 0) (kd := 100) (N := 256) (ty := .int) (a0 := (256, .inl (fun _ => 0))) X rfl rfl (Or.inl rfl) ct_ai (fun _ => rfl) (by decide) (by decide) (by decide) (Nat.le_of_ble_eq_true rfl) (Nat.le_of_ble_eq_true rfl) hW dk7_55 (fun q5 H hW => ?_)
  have hW : ct_Wd dC dI A s [(h0, .inr (6, [.ref q0, .ref q1, .ref q2, .ref q3, .ref q4, .null])), (q0, .inr (7, [.ref (f0 0)])), ((f0 0), .inr (4, [.ref (f0 1), .int 0, .int 0, .int (-9), .int 0])), ((f0 1), .inl (cA 100, 6, .inl (fun _ => 0))), (q1, .inl (cA 100, 256, .inl (fun _ => 0))), (q2, .inl (cA 100, 256, .inl (fun _ => 0))), (q3, .inl (cA 100, 256, .inl (fun _ => 0))), (q4, .inl (cA 100, 256, .inl (fun _ => 0))), (q5, .inl (cA 100, 256, .inl (fun _ => 0)))] H locs := hW
  refine W.widen (k := 8) (n := 1292) (Nat.le_of_ble_eq_true rfl) (Nat.le_of_ble_eq_true rfl) ?_
  refine ct_putF (ci := 6) (k := 5) (C := "SaidLeast$Orders") (T := ab_T6) (ty := (.array .int)) X hin rfl (by decide) lk7_31 rfl rfl rfl (by decide +kernel) rfl rfl (Nat.le_of_ble_eq_true rfl) hW dk7_57 (fun H locs hW => ?_)
  have hW : ct_Wd dC dI A s [(h0, .inr (6, [.ref q0, .ref q1, .ref q2, .ref q3, .ref q4, .ref q5])), (q0, .inr (7, [.ref (f0 0)])), ((f0 0), .inr (4, [.ref (f0 1), .int 0, .int 0, .int (-9), .int 0])), ((f0 1), .inl (cA 100, 6, .inl (fun _ => 0))), (q1, .inl (cA 100, 256, .inl (fun _ => 0))), (q2, .inl (cA 100, 256, .inl (fun _ => 0))), (q3, .inl (cA 100, 256, .inl (fun _ => 0))), (q4, .inl (cA 100, 256, .inl (fun _ => 0))), (q5, .inl (cA 100, 256, .inl (fun _ => 0)))] H locs := hW
  exact fin 60 ls (fun k => [q0, (f0 0), (f0 1), q1, q2, q3, q4, q5].getD k 0) H locs hW dk7_60
theorem dk9_0 : decode (ab_C 9) 0 = .ok (.aload_n 0, 1) := by decide +kernel
theorem dk9_1 : decode (ab_C 9) 1 = .ok (.invokespecial 3, 3) := by decide +kernel
theorem dk9_4 : decode (ab_C 9) 4 = .ok (.aload_n 0, 1) := by decide +kernel
theorem dk9_5 : decode (ab_C 9) 5 = .ok (.new 9, 3) := by decide +kernel
theorem dk9_8 : decode (ab_C 9) 8 = .ok (.dup, 1) := by decide +kernel
theorem dk9_9 : decode (ab_C 9) 9 = .ok (.invokespecial 11, 3) := by decide +kernel
theorem dk9_12 : decode (ab_C 9) 12 = .ok (.putfield 12, 3) := by decide +kernel
theorem dk9_15 : decode (ab_C 9) 15 = .ok (.aload_n 0, 1) := by decide +kernel
theorem dk9_16 : decode (ab_C 9) 16 = .ok (.sipush 256, 3) := by decide +kernel
theorem dk9_19 : decode (ab_C 9) 19 = .ok (.newarray .int, 2) := by decide +kernel
theorem dk9_21 : decode (ab_C 9) 21 = .ok (.putfield 18, 3) := by decide +kernel
theorem dk9_24 : decode (ab_C 9) 24 = .ok (.aload_n 0, 1) := by decide +kernel
theorem dk9_25 : decode (ab_C 9) 25 = .ok (.sipush 256, 3) := by decide +kernel
theorem dk9_28 : decode (ab_C 9) 28 = .ok (.newarray .int, 2) := by decide +kernel
theorem dk9_30 : decode (ab_C 9) 30 = .ok (.putfield 22, 3) := by decide +kernel
theorem dk9_33 : decode (ab_C 9) 33 = .ok (.return_, 1) := by decide +kernel
theorem ln9_9 : Cond.classLink "SaidLeast$Contest" 9 "SaidLeast$Ahead" ∈ ab_gt := ab_gt_in (by decide +kernel) rfl
theorem lk9_12 : Cond.fieldLink "SaidLeast$Contest" 12 "SaidLeast$Contest" "ahead" "LSaidLeast$Ahead;" ∈ ab_gt := ab_gt_in (by decide +kernel) rfl
theorem lk9_18 : Cond.fieldLink "SaidLeast$Contest" 18 "SaidLeast$Contest" "leasts" "[I" ∈ ab_gt := ab_gt_in (by decide +kernel) rfl
theorem lk9_22 : Cond.fieldLink "SaidLeast$Contest" 22 "SaidLeast$Contest" "ends" "[I" ∈ ab_gt := ab_gt_in (by decide +kernel) rfl
theorem lo9 : Cond.methodLink "SaidLeast$Contest" 3 Lib.objectInit ∈ ab_gt := ab_gt_in (by decide +kernel) rfl
def cw9 (cA : Nat → ClassId) (h0 : Nat) (q : Nat → Nat) : va_W := [(h0, .inr (8, [.ref (q 0), .ref (q 3), .ref (q 4)])), ((q 0), .inr (7, [.ref (q 1)])), ((q 1), .inr (4, [.ref (q 2), .int 0, .int 0, .int (-9), .int 0])), ((q 2), .inl (cA 100, 6, .inl (fun _ => 0))), ((q 3), .inl (cA 100, 256, .inl (fun _ => 0))), ((q 4), .inl (cA 100, 256, .inl (fun _ => 0)))]
set_option maxHeartbeats 8000000 in
set_option maxRecDepth 100000 in
theorem ct_9 (l : Launch) (dC : Nat → ClassId) (dI : Nat → Nat → Nat) (cA : Nat → ClassId) : ct_Met l dC dI cA 9 8 3 5 524 (cw9 cA) := by
  refine ct_open (idx := 3) ⟨by decide, by decide, by decide, by decide⟩ dk9_0 dk9_1 lo9 rfl rfl (by decide) (by decide) ?_
  intro p e s m below meth c ls h0 A Q X hin hW hl fin
  have hx := X.1
  have hb := X.2.1
  have hW : ct_Wd dC dI A s [(h0, .inr (8, [.null, .null, .null]))] s.heap [] := hW
  generalize hH0 : s.heap = H at hW ⊢
  generalize hL0 : ([] : List Loc) = locs at hW ⊢
  refine lv_aload_n hx hb dk9_4 rfl (lv_at hl 0 rfl) ?_
  refine ct_mk (ci := 7) (mc := 2) (ms := 11) (C := "SaidLeast$Ahead") (T := ab_T7) (Wf := cw8 cA) X (by decide) rfl ln9_9 li7 ls7 hW (Nat.le_of_ble_eq_true rfl) (Nat.le_of_ble_eq_true rfl) dk9_5 dk9_8 (fun b H1 locs1 hp => ct_callN (M' := 8) (d := 2) (jdx := 11) X hl.1 (ct_8 l dC dI cA) (by decide) ⟨by decide, by decide, by decide, by decide⟩ lm8 ls7 rfl (by decide +kernel) rfl ⟨Nat.le_of_ble_eq_true rfl, Nat.le_of_ble_eq_true rfl⟩ (Nat.le_of_ble_eq_true rfl) dk9_9 ⟨Nat.le_of_ble_eq_true rfl, Nat.le_of_ble_eq_true rfl⟩ b H1 locs1 hp) (fun q0 f0 H locs hW => ?_)
  have hW : ct_Wd dC dI A s [(h0, .inr (8, [.null, .null, .null])), (q0, .inr (7, [.ref (f0 0)])), ((f0 0), .inr (4, [.ref (f0 1), .int 0, .int 0, .int (-9), .int 0])), ((f0 1), .inl (cA 100, 6, .inl (fun _ => 0)))] H locs := hW
  refine W.widen (k := 3) (n := 12) (Nat.le_of_ble_eq_true rfl) (Nat.le_of_ble_eq_true rfl) ?_
  refine ct_putF (ci := 8) (k := 0) (C := "SaidLeast$Contest") (T := ab_T8) (ty := (.object "SaidLeast$Ahead")) X hin rfl (by decide) lk9_12 rfl rfl rfl (by decide +kernel) rfl rfl (Nat.le_of_ble_eq_true rfl) hW dk9_12 (fun H locs hW => ?_)
  have hW : ct_Wd dC dI A s [(h0, .inr (8, [.ref q0, .null, .null])), (q0, .inr (7, [.ref (f0 0)])), ((f0 0), .inr (4, [.ref (f0 1), .int 0, .int 0, .int (-9), .int 0])), ((f0 1), .inl (cA 100, 6, .inl (fun _ => 0)))] H locs := hW
  refine lv_aload_n hx hb dk9_15 rfl (lv_at hl 0 rfl) ?_
  refine lv_sipush (v := 256) hx hb dk9_16 (by decide) ?_
  refine ct_newa (t0 := 0) (kd := 100) (N := 256) (ty := .int) (a0 := (256, .inl (fun _ => 0))) X rfl rfl (Or.inl rfl) ct_ai (fun _ => rfl) (by decide) (by decide) (by decide) (Nat.le_of_ble_eq_true rfl) (Nat.le_of_ble_eq_true rfl) hW dk9_19 (fun q1 H hW => ?_)
  have hW : ct_Wd dC dI A s [(h0, .inr (8, [.ref q0, .null, .null])), (q0, .inr (7, [.ref (f0 0)])), ((f0 0), .inr (4, [.ref (f0 1), .int 0, .int 0, .int (-9), .int 0])), ((f0 1), .inl (cA 100, 6, .inl (fun _ => 0))), (q1, .inl (cA 100, 256, .inl (fun _ => 0)))] H locs := hW
  refine W.widen (k := 4) (n := 268) (Nat.le_of_ble_eq_true rfl) (Nat.le_of_ble_eq_true rfl) ?_
  refine ct_putF (ci := 8) (k := 1) (C := "SaidLeast$Contest") (T := ab_T8) (ty := (.array .int)) X hin rfl (by decide) lk9_18 rfl rfl rfl (by decide +kernel) rfl rfl (Nat.le_of_ble_eq_true rfl) hW dk9_21 (fun H locs hW => ?_)
  have hW : ct_Wd dC dI A s [(h0, .inr (8, [.ref q0, .ref q1, .null])), (q0, .inr (7, [.ref (f0 0)])), ((f0 0), .inr (4, [.ref (f0 1), .int 0, .int 0, .int (-9), .int 0])), ((f0 1), .inl (cA 100, 6, .inl (fun _ => 0))), (q1, .inl (cA 100, 256, .inl (fun _ => 0)))] H locs := hW
  refine lv_aload_n hx hb dk9_24 rfl (lv_at hl 0 rfl) ?_
  refine lv_sipush (v := 256) hx hb dk9_25 (by decide) ?_
  refine ct_newa (t0 := 0) (kd := 100) (N := 256) (ty := .int) (a0 := (256, .inl (fun _ => 0))) X rfl rfl (Or.inl rfl) ct_ai (fun _ => rfl) (by decide) (by decide) (by decide) (Nat.le_of_ble_eq_true rfl) (Nat.le_of_ble_eq_true rfl) hW dk9_28 (fun q2 H hW => ?_)
  have hW : ct_Wd dC dI A s [(h0, .inr (8, [.ref q0, .ref q1, .null])), (q0, .inr (7, [.ref (f0 0)])), ((f0 0), .inr (4, [.ref (f0 1), .int 0, .int 0, .int (-9), .int 0])), ((f0 1), .inl (cA 100, 6, .inl (fun _ => 0))), (q1, .inl (cA 100, 256, .inl (fun _ => 0))), (q2, .inl (cA 100, 256, .inl (fun _ => 0)))] H locs := hW
  refine W.widen (k := 5) (n := 524) (Nat.le_of_ble_eq_true rfl) (Nat.le_of_ble_eq_true rfl) ?_
  refine ct_putF (ci := 8) (k := 2) (C := "SaidLeast$Contest") (T := ab_T8) (ty := (.array .int)) X hin rfl (by decide) lk9_22 rfl rfl rfl (by decide +kernel) rfl rfl (Nat.le_of_ble_eq_true rfl) hW dk9_30 (fun H locs hW => ?_)
  have hW : ct_Wd dC dI A s [(h0, .inr (8, [.ref q0, .ref q1, .ref q2])), (q0, .inr (7, [.ref (f0 0)])), ((f0 0), .inr (4, [.ref (f0 1), .int 0, .int 0, .int (-9), .int 0])), ((f0 1), .inl (cA 100, 6, .inl (fun _ => 0))), (q1, .inl (cA 100, 256, .inl (fun _ => 0))), (q2, .inl (cA 100, 256, .inl (fun _ => 0)))] H locs := hW
  exact fin 33 ls (fun k => [q0, (f0 0), (f0 1), q1, q2].getD k 0) H locs hW dk9_33
theorem dk10_0 : decode (ab_C 10) 0 = .ok (.aload_n 0, 1) := by decide +kernel
theorem dk10_1 : decode (ab_C 10) 1 = .ok (.invokespecial 3, 3) := by decide +kernel
theorem dk10_4 : decode (ab_C 10) 4 = .ok (.aload_n 0, 1) := by decide +kernel
theorem dk10_5 : decode (ab_C 10) 5 = .ok (.bipush 55, 2) := by decide +kernel
theorem dk10_7 : decode (ab_C 10) 7 = .ok (.newarray .long, 2) := by decide +kernel
theorem dk10_9 : decode (ab_C 10) 9 = .ok (.putfield 9, 3) := by decide +kernel
theorem dk10_12 : decode (ab_C 10) 12 = .ok (.aload_n 0, 1) := by decide +kernel
theorem dk10_13 : decode (ab_C 10) 13 = .ok (.new 15, 3) := by decide +kernel
theorem dk10_16 : decode (ab_C 10) 16 = .ok (.dup, 1) := by decide +kernel
theorem dk10_17 : decode (ab_C 10) 17 = .ok (.invokespecial 17, 3) := by decide +kernel
theorem dk10_20 : decode (ab_C 10) 20 = .ok (.putfield 18, 3) := by decide +kernel
theorem dk10_23 : decode (ab_C 10) 23 = .ok (.aload_n 0, 1) := by decide +kernel
theorem dk10_24 : decode (ab_C 10) 24 = .ok (.lconst 1, 1) := by decide +kernel
theorem dk10_25 : decode (ab_C 10) 25 = .ok (.putfield 22, 3) := by decide +kernel
theorem dk10_28 : decode (ab_C 10) 28 = .ok (.return_, 1) := by decide +kernel
theorem lk10_9 : Cond.fieldLink "SaidLeast$Guesses" 9 "SaidLeast$Guesses" "ways" "[J" ∈ ab_gt := ab_gt_in (by decide +kernel) rfl
theorem ln10_15 : Cond.classLink "SaidLeast$Guesses" 15 "SaidLeast$State" ∈ ab_gt := ab_gt_in (by decide +kernel) rfl
theorem lk10_18 : Cond.fieldLink "SaidLeast$Guesses" 18 "SaidLeast$Guesses" "then" "LSaidLeast$State;" ∈ ab_gt := ab_gt_in (by decide +kernel) rfl
theorem lk10_22 : Cond.fieldLink "SaidLeast$Guesses" 22 "SaidLeast$Guesses" "lower" "J" ∈ ab_gt := ab_gt_in (by decide +kernel) rfl
theorem lo10 : Cond.methodLink "SaidLeast$Guesses" 3 Lib.objectInit ∈ ab_gt := ab_gt_in (by decide +kernel) rfl
def cw10 (cA : Nat → ClassId) (h0 : Nat) (q : Nat → Nat) : va_W := [(h0, .inr (9, [.ref (q 0), .ref (q 1), .long 0, .long 1])), ((q 0), .inl (cA 103, 55, .inr (.inl (fun _ => 0)))), ((q 1), .inr (4, [.ref (q 2), .int 0, .int 0, .int (-9), .int 0])), ((q 2), .inl (cA 100, 6, .inl (fun _ => 0)))]
set_option maxHeartbeats 8000000 in
set_option maxRecDepth 100000 in
theorem ct_10 (l : Launch) (dC : Nat → ClassId) (dI : Nat → Nat → Nat) (cA : Nat → ClassId) : ct_Met l dC dI cA 10 9 2 3 66 (cw10 cA) := by
  refine ct_open (idx := 3) ⟨by decide, by decide, by decide, by decide⟩ dk10_0 dk10_1 lo10 rfl rfl (by decide) (by decide) ?_
  intro p e s m below meth c ls h0 A Q X hin hW hl fin
  have hx := X.1
  have hb := X.2.1
  have hW : ct_Wd dC dI A s [(h0, .inr (9, [.null, .null, .long 0, .long 0]))] s.heap [] := hW
  generalize hH0 : s.heap = H at hW ⊢
  generalize hL0 : ([] : List Loc) = locs at hW ⊢
  refine lv_aload_n hx hb dk10_4 rfl (lv_at hl 0 rfl) ?_
  refine lv_bipush (v := 55) hx hb dk10_5 (by decide) ?_
  refine ct_newa (t0 := 3) (kd := 103) (N := 55) (ty := .long) (a0 := (55, .inr (.inl (fun _ => 0)))) X rfl rfl (Or.inr (Or.inr (Or.inr rfl))) ct_al (fun _ => rfl) (by decide) (by decide) (by decide) (Nat.le_of_ble_eq_true rfl) (Nat.le_of_ble_eq_true rfl) hW dk10_7 (fun q0 H hW => ?_)
  have hW : ct_Wd dC dI A s [(h0, .inr (9, [.null, .null, .long 0, .long 0])), (q0, .inl (cA 103, 55, .inr (.inl (fun _ => 0))))] H locs := hW
  refine W.widen (k := 1) (n := 55) (Nat.le_of_ble_eq_true rfl) (Nat.le_of_ble_eq_true rfl) ?_
  refine ct_putF (ci := 9) (k := 0) (C := "SaidLeast$Guesses") (T := ab_T9) (ty := (.array .long)) X hin rfl (by decide) lk10_9 rfl rfl rfl (by decide +kernel) rfl rfl (Nat.le_of_ble_eq_true rfl) hW dk10_9 (fun H locs hW => ?_)
  have hW : ct_Wd dC dI A s [(h0, .inr (9, [.ref q0, .null, .long 0, .long 0])), (q0, .inl (cA 103, 55, .inr (.inl (fun _ => 0))))] H locs := hW
  refine lv_aload_n hx hb dk10_12 rfl (lv_at hl 0 rfl) ?_
  refine ct_mk (ci := 4) (mc := 1) (ms := 6) (C := "SaidLeast$State") (T := ab_T4) (Wf := cw5 cA) X (by decide) rfl ln10_15 li4 ls4 hW (Nat.le_of_ble_eq_true rfl) (Nat.le_of_ble_eq_true rfl) dk10_13 dk10_16 (fun b H1 locs1 hp => ct_callN (M' := 5) (d := 1) (jdx := 17) X hl.1 (ct_5 l dC dI cA) (by decide) ⟨by decide, by decide, by decide, by decide⟩ lm5 ls4 rfl (by decide +kernel) rfl ⟨Nat.le_of_ble_eq_true rfl, Nat.le_of_ble_eq_true rfl⟩ (Nat.le_of_ble_eq_true rfl) dk10_17 ⟨Nat.le_of_ble_eq_true rfl, Nat.le_of_ble_eq_true rfl⟩ b H1 locs1 hp) (fun q1 f1 H locs hW => ?_)
  have hW : ct_Wd dC dI A s [(h0, .inr (9, [.ref q0, .null, .long 0, .long 0])), (q0, .inl (cA 103, 55, .inr (.inl (fun _ => 0)))), (q1, .inr (4, [.ref (f1 0), .int 0, .int 0, .int (-9), .int 0])), ((f1 0), .inl (cA 100, 6, .inl (fun _ => 0)))] H locs := hW
  refine W.widen (k := 3) (n := 66) (Nat.le_of_ble_eq_true rfl) (Nat.le_of_ble_eq_true rfl) ?_
  refine ct_putF (ci := 9) (k := 1) (C := "SaidLeast$Guesses") (T := ab_T9) (ty := (.object "SaidLeast$State")) X hin rfl (by decide) lk10_18 rfl rfl rfl (by decide +kernel) rfl rfl (Nat.le_of_ble_eq_true rfl) hW dk10_20 (fun H locs hW => ?_)
  have hW : ct_Wd dC dI A s [(h0, .inr (9, [.ref q0, .ref q1, .long 0, .long 0])), (q0, .inl (cA 103, 55, .inr (.inl (fun _ => 0)))), (q1, .inr (4, [.ref (f1 0), .int 0, .int 0, .int (-9), .int 0])), ((f1 0), .inl (cA 100, 6, .inl (fun _ => 0)))] H locs := hW
  refine lv_aload_n hx hb dk10_23 rfl (lv_at hl 0 rfl) ?_
  refine lv_lconst (v := 1) hx hb dk10_24 (by decide) ?_
  refine ct_put (ci := 9) (k := 3) (C := "SaidLeast$Guesses") (T := ab_T9) (ty := .long) (v := .long 1) X rfl (by decide) lk10_22 rfl rfl rfl (by decide +kernel) rfl rfl (Nat.le_of_ble_eq_true rfl) hW dk10_25 (fun H locs hW => ?_)
  have hW : ct_Wd dC dI A s [(h0, .inr (9, [.ref q0, .ref q1, .long 0, .long 1])), (q0, .inl (cA 103, 55, .inr (.inl (fun _ => 0)))), (q1, .inr (4, [.ref (f1 0), .int 0, .int 0, .int (-9), .int 0])), ((f1 0), .inl (cA 100, 6, .inl (fun _ => 0)))] H locs := hW
  exact fin 28 ls (fun k => [q0, q1, (f1 0)].getD k 0) H locs hW dk10_28
