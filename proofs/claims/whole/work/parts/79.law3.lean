/-! THE LAW, CASE BY CASE, by program -/
section LB
variable {p : Program} {l : Launch} {e : Env} {s : State} {m : MethodId} {below : List Frame} {meth : Method} {c : Code} {H : Heap} {locs : List Loc} {cells slots : Nat} {Q : State → Prop}
variable {dC : Nat → ClassId} {dI : Nat → Nat → Nat} {cA : Nat → ClassId} {ad : Nat → Nat} {b L : Nat} {xs : Nat → Int32} {pc : Nat} {ls : Array Slot} {rest : List Value} {σ : ab_St}
/-- write -/
theorem la_o0 {B i : Nat} (X : la_At dC dI cA ad p s m meth c b L xs) (hl : lv_has ls 4 [(0, .ref b), (1, .ref (ad 0)), (2, .ref (ad 50)), (3, .int (nI i))]) (hL : L ≤ 2560) (hi : i + 5 ≤ L) (hB1 : 99 ≤ B) (hB2 : B < 90000) (hI : Inv B σ) (hWd : la_Wd dC dI cA ad s σ H locs) (hcl : cells ≤ room_1.cells) (hst : slots ≤ room_1.slots)
    (kk : ∀ (σ1 : ab_St) (H1 : Heap) (locs1 : List Loc), Inv (B + 9) σ1 → la_Wd dC dI cA ad s σ1 H1 locs1 → W p l e room_1 s m #[Value.ref b] below meth c H1 locs1 cells slots Q (F0 m 794 ls [])) : W p l e room_1 s m #[Value.ref b] below meth c H locs cells slots Q (F0 m 144 ls []) := by
  have hx := X.1
  have hb := X.2.1
  have hown := X.2.2.2.2.1
  have hts := X.2.2.2.2.2.1
  have h0 := lv_at hl 0 rfl
  have h3 := lv_at hl 3 rfl
  refine lv_aload_n hx hb dl_144 rfl (lv_at hl 1 rfl) ?_
  refine la_arg (i := i) (j := 1) X h0 h3 hL (by omega) hWd bk_145 ?_
  refine la_arg (i := i) (j := 2) X h0 h3 hL (by omega) hWd bk_150 ?_
  refine lv_i2l (v := _) hx hb dl_155 rfl ?_
  refine lv_bipush (v := 32) hx hb dl_156 (by decide) ?_
  refine lv_lshl (v := _) hx hb dl_158 rfl ?_
  refine la_arg (i := i) (j := 3) X h0 h3 hL (by omega) hWd bk_159 ?_
  refine lv_i2l (v := _) hx hb dl_164 rfl ?_
  refine lv_ldc2 hx hb hown (hts _ lw_k13) dl_165 ?_
  refine lv_land hx hb dl_168 ?_
  refine lv_lor hx hb dl_169 ?_
  refine lv_topl (fun v0 ev0 => ?_)
  have hop := op_write (B := B) (σ := σ) (x := (xs (i + 1))) (v := v0) hI
  refine la_call (y := 11) (na := 2) (b0 := 0) (as := [.int (xs (i + 1)), .long v0]) (rest := []) X hl.1 lw_15 rfl rfl (Nat.le_of_ble_eq_true rfl) hWd (Ev.int hop rfl) (Nat.le_of_ble_eq_true rfl) dl_170 hcl hst (fun r σ1 H locs hQ hWd => ?_)
  obtain ⟨⟨z, rfl⟩, hop⟩ := hQ
  refine lv_aload_n hx hb dl_173 rfl (lv_at hl 2 rfl) ?_
  refine la_arg (i := i) (j := 1) X h0 h3 hL (by omega) hWd bk_174 ?_
  refine la_arg (i := i) (j := 2) X h0 h3 hL (by omega) hWd bk_179 ?_
  refine lv_i2l (v := _) hx hb dl_184 rfl ?_
  refine lv_bipush (v := 32) hx hb dl_185 (by decide) ?_
  refine lv_lshl (v := _) hx hb dl_187 rfl ?_
  refine la_arg (i := i) (j := 3) X h0 h3 hL (by omega) hWd bk_188 ?_
  refine lv_i2l (v := _) hx hb dl_193 rfl ?_
  refine lv_ldc2 hx hb hown (hts _ lw_k13) dl_194 ?_
  refine lv_land hx hb dl_197 ?_
  refine lv_lor hx hb dl_198 ?_
  refine lv_topl (fun v1 ev1 => ?_)
  rw [← ev0] at ev1
  subst ev1
  refine la_call (y := 100) (na := 2) (b0 := 50) (as := [.int (xs (i + 1)), .long v1]) (rest := [.int z]) X hl.1 lw_19 rfl rfl (Nat.le_of_ble_eq_true rfl) hWd hop (Nat.le_of_ble_eq_true rfl) dl_199 hcl hst (fun r σ2 H locs hQ hWd => ?_)
  obtain ⟨⟨v, hv, rfl⟩, hI2⟩ := hQ
  cases hv
  exact lv_icmp_eq (tgt := 794) hx hb dl_202 (by decide) (fun _ => kk σ2 H locs hI2 hWd) (fun hne => absurd rfl hne)
/-- wipe -/
theorem la_o1 {B i : Nat} (X : la_At dC dI cA ad p s m meth c b L xs) (hl : lv_has ls 4 [(0, .ref b), (1, .ref (ad 0)), (2, .ref (ad 50)), (3, .int (nI i))]) (hL : L ≤ 2560) (hi : i + 5 ≤ L) (hB1 : 99 ≤ B) (hB2 : B < 90000) (hI : Inv B σ) (hWd : la_Wd dC dI cA ad s σ H locs) (hcl : cells ≤ room_1.cells) (hst : slots ≤ room_1.slots)
    (kk : ∀ (σ1 : ab_St) (H1 : Heap) (locs1 : List Loc), Inv (B + 9) σ1 → la_Wd dC dI cA ad s σ1 H1 locs1 → W p l e room_1 s m #[Value.ref b] below meth c H1 locs1 cells slots Q (F0 m 794 ls [])) : W p l e room_1 s m #[Value.ref b] below meth c H locs cells slots Q (F0 m 207 ls []) := by
  have hx := X.1
  have hb := X.2.1
  have hown := X.2.2.2.2.1
  have hts := X.2.2.2.2.2.1
  have h0 := lv_at hl 0 rfl
  have h3 := lv_at hl 3 rfl
  refine lv_aload_n hx hb dl_207 rfl (lv_at hl 1 rfl) ?_
  have hop := op_wipe (B := B) (σ := σ)  hI
  refine la_call (y := 13) (na := 0) (b0 := 0) (as := []) (rest := []) X hl.1 lw_20 rfl rfl (Nat.le_of_ble_eq_true rfl) hWd (Ev.int hop rfl) (Nat.le_of_ble_eq_true rfl) dl_208 hcl hst (fun r σ1 H locs hQ hWd => ?_)
  obtain ⟨⟨z, rfl⟩, hop⟩ := hQ
  refine lv_aload_n hx hb dl_211 rfl (lv_at hl 2 rfl) ?_
  refine la_call (y := 102) (na := 0) (b0 := 50) (as := []) (rest := [.int z]) X hl.1 lw_24 rfl rfl (Nat.le_of_ble_eq_true rfl) hWd hop (Nat.le_of_ble_eq_true rfl) dl_212 hcl hst (fun r σ2 H locs hQ hWd => ?_)
  obtain ⟨⟨v, hv, rfl⟩, hI2⟩ := hQ
  cases hv
  exact lv_icmp_eq (tgt := 794) hx hb dl_215 (by decide) (fun _ => kk σ2 H locs hI2 hWd) (fun hne => absurd rfl hne)
/-- fault -/
theorem la_o2 {B i : Nat} (X : la_At dC dI cA ad p s m meth c b L xs) (hl : lv_has ls 4 [(0, .ref b), (1, .ref (ad 0)), (2, .ref (ad 50)), (3, .int (nI i))]) (hL : L ≤ 2560) (hi : i + 5 ≤ L) (hB1 : 99 ≤ B) (hB2 : B < 90000) (hI : Inv B σ) (hWd : la_Wd dC dI cA ad s σ H locs) (hcl : cells ≤ room_1.cells) (hst : slots ≤ room_1.slots)
    (kk : ∀ (σ1 : ab_St) (H1 : Heap) (locs1 : List Loc), Inv (B + 9) σ1 → la_Wd dC dI cA ad s σ1 H1 locs1 → W p l e room_1 s m #[Value.ref b] below meth c H1 locs1 cells slots Q (F0 m 794 ls [])) : W p l e room_1 s m #[Value.ref b] below meth c H locs cells slots Q (F0 m 220 ls []) := by
  have hx := X.1
  have hb := X.2.1
  have hown := X.2.2.2.2.1
  have hts := X.2.2.2.2.2.1
  have h0 := lv_at hl 0 rfl
  have h3 := lv_at hl 3 rfl
  refine lv_aload_n hx hb dl_220 rfl (lv_at hl 1 rfl) ?_
  have hop := op_fault (B := B) (σ := σ)  hI
  refine la_call (y := 14) (na := 0) (b0 := 0) (as := []) (rest := []) X hl.1 lw_25 rfl rfl (Nat.le_of_ble_eq_true rfl) hWd (Ev.int hop rfl) (Nat.le_of_ble_eq_true rfl) dl_221 hcl hst (fun r σ1 H locs hQ hWd => ?_)
  obtain ⟨⟨z, rfl⟩, hop⟩ := hQ
  refine lv_aload_n hx hb dl_224 rfl (lv_at hl 2 rfl) ?_
  refine la_call (y := 103) (na := 0) (b0 := 50) (as := []) (rest := [.int z]) X hl.1 lw_28 rfl rfl (Nat.le_of_ble_eq_true rfl) hWd hop (Nat.le_of_ble_eq_true rfl) dl_225 hcl hst (fun r σ2 H locs hQ hWd => ?_)
  obtain ⟨⟨v, hv, rfl⟩, hI2⟩ := hQ
  cases hv
  exact lv_icmp_eq (tgt := 794) hx hb dl_228 (by decide) (fun _ => kk σ2 H locs hI2 hWd) (fun hne => absurd rfl hne)
/-- parlour -/
theorem la_o3 {B i : Nat} (X : la_At dC dI cA ad p s m meth c b L xs) (hl : lv_has ls 4 [(0, .ref b), (1, .ref (ad 0)), (2, .ref (ad 50)), (3, .int (nI i))]) (hL : L ≤ 2560) (hi : i + 5 ≤ L) (hB1 : 99 ≤ B) (hB2 : B < 90000) (hI : Inv B σ) (hWd : la_Wd dC dI cA ad s σ H locs) (hcl : cells ≤ room_1.cells) (hst : slots ≤ room_1.slots)
    (kk : ∀ (σ1 : ab_St) (H1 : Heap) (locs1 : List Loc), Inv (B + 9) σ1 → la_Wd dC dI cA ad s σ1 H1 locs1 → W p l e room_1 s m #[Value.ref b] below meth c H1 locs1 cells slots Q (F0 m 794 ls [])) : W p l e room_1 s m #[Value.ref b] below meth c H locs cells slots Q (F0 m 233 ls []) := by
  have hx := X.1
  have hb := X.2.1
  have hown := X.2.2.2.2.1
  have hts := X.2.2.2.2.2.1
  have h0 := lv_at hl 0 rfl
  have h3 := lv_at hl 3 rfl
  refine lv_aload_n hx hb dl_233 rfl (lv_at hl 1 rfl) ?_
  have hop := op_parlour (B := B) (σ := σ)  hB1 hI
  refine la_call (y := 33) (na := 0) (b0 := 0) (as := []) (rest := []) X hl.1 lw_29 rfl rfl (Nat.le_of_ble_eq_true rfl) hWd (Ev.int hop rfl) (Nat.le_of_ble_eq_true rfl) dl_234 hcl hst (fun r σ1 H locs hQ hWd => ?_)
  obtain ⟨⟨z, rfl⟩, hop⟩ := hQ
  refine lv_aload_n hx hb dl_237 rfl (lv_at hl 2 rfl) ?_
  refine la_call (y := 110) (na := 0) (b0 := 50) (as := []) (rest := [.int z]) X hl.1 lw_32 rfl rfl (Nat.le_of_ble_eq_true rfl) hWd hop (Nat.le_of_ble_eq_true rfl) dl_238 hcl hst (fun r σ2 H locs hQ hWd => ?_)
  obtain ⟨⟨v, hv, rfl⟩, hI2⟩ := hQ
  cases hv
  exact lv_icmp_eq (tgt := 794) hx hb dl_241 (by decide) (fun _ => kk σ2 H locs hI2 hWd) (fun hne => absurd rfl hne)
/-- about -/
theorem la_o4 {B i : Nat} (X : la_At dC dI cA ad p s m meth c b L xs) (hl : lv_has ls 4 [(0, .ref b), (1, .ref (ad 0)), (2, .ref (ad 50)), (3, .int (nI i))]) (hL : L ≤ 2560) (hi : i + 5 ≤ L) (hB1 : 99 ≤ B) (hB2 : B < 90000) (hI : Inv B σ) (hWd : la_Wd dC dI cA ad s σ H locs) (hcl : cells ≤ room_1.cells) (hst : slots ≤ room_1.slots)
    (kk : ∀ (σ1 : ab_St) (H1 : Heap) (locs1 : List Loc), Inv (B + 9) σ1 → la_Wd dC dI cA ad s σ1 H1 locs1 → W p l e room_1 s m #[Value.ref b] below meth c H1 locs1 cells slots Q (F0 m 794 ls [])) : W p l e room_1 s m #[Value.ref b] below meth c H locs cells slots Q (F0 m 246 ls []) := by
  have hx := X.1
  have hb := X.2.1
  have hown := X.2.2.2.2.1
  have hts := X.2.2.2.2.2.1
  have h0 := lv_at hl 0 rfl
  have h3 := lv_at hl 3 rfl
  refine lv_aload_n hx hb dl_246 rfl (lv_at hl 1 rfl) ?_
  refine la_arg (i := i) (j := 1) X h0 h3 hL (by omega) hWd bk_247 ?_
  have hop := op_about (B := B) (σ := σ) (w := (xs (i + 1))) hB2 hI
  refine la_call (y := 37) (na := 1) (b0 := 0) (as := [.int (xs (i + 1))]) (rest := []) X hl.1 lw_33 rfl rfl (Nat.le_of_ble_eq_true rfl) hWd (Ev.int hop rfl) (Nat.le_of_ble_eq_true rfl) dl_252 hcl hst (fun r σ1 H locs hQ hWd => ?_)
  obtain ⟨⟨z, rfl⟩, hop⟩ := hQ
  refine lv_aload_n hx hb dl_255 rfl (lv_at hl 2 rfl) ?_
  refine la_arg (i := i) (j := 1) X h0 h3 hL (by omega) hWd bk_256 ?_
  refine la_call (y := 111) (na := 1) (b0 := 50) (as := [.int (xs (i + 1))]) (rest := [.int z]) X hl.1 lw_37 rfl rfl (Nat.le_of_ble_eq_true rfl) hWd hop (Nat.le_of_ble_eq_true rfl) dl_261 hcl hst (fun r σ2 H locs hQ hWd => ?_)
  obtain ⟨⟨v, hv, rfl⟩, hI2⟩ := hQ
  cases hv
  exact lv_icmp_eq (tgt := 794) hx hb dl_264 (by decide) (fun _ => kk σ2 H locs hI2 hWd) (fun hne => absurd rfl hne)
/-- person -/
theorem la_o5 {B i : Nat} (X : la_At dC dI cA ad p s m meth c b L xs) (hl : lv_has ls 4 [(0, .ref b), (1, .ref (ad 0)), (2, .ref (ad 50)), (3, .int (nI i))]) (hL : L ≤ 2560) (hi : i + 5 ≤ L) (hB1 : 99 ≤ B) (hB2 : B < 90000) (hI : Inv B σ) (hWd : la_Wd dC dI cA ad s σ H locs) (hcl : cells ≤ room_1.cells) (hst : slots ≤ room_1.slots)
    (kk : ∀ (σ1 : ab_St) (H1 : Heap) (locs1 : List Loc), Inv (B + 9) σ1 → la_Wd dC dI cA ad s σ1 H1 locs1 → W p l e room_1 s m #[Value.ref b] below meth c H1 locs1 cells slots Q (F0 m 794 ls [])) : W p l e room_1 s m #[Value.ref b] below meth c H locs cells slots Q (F0 m 269 ls []) := by
  have hx := X.1
  have hb := X.2.1
  have hown := X.2.2.2.2.1
  have hts := X.2.2.2.2.2.1
  have h0 := lv_at hl 0 rfl
  have h3 := lv_at hl 3 rfl
  refine lv_aload_n hx hb dl_269 rfl (lv_at hl 1 rfl) ?_
  refine la_arg (i := i) (j := 1) X h0 h3 hL (by omega) hWd bk_270 ?_
  refine la_arg (i := i) (j := 2) X h0 h3 hL (by omega) hWd bk_275 ?_
  have hop := op_person (B := B) (σ := σ) (x := (xs (i + 1))) (w := (xs (i + 2))) hB2 hI
  refine la_call (y := 41) (na := 2) (b0 := 0) (as := [.int (xs (i + 1)), .int (xs (i + 2))]) (rest := []) X hl.1 lw_38 rfl rfl (Nat.le_of_ble_eq_true rfl) hWd (Ev.int hop rfl) (Nat.le_of_ble_eq_true rfl) dl_280 hcl hst (fun r σ1 H locs hQ hWd => ?_)
  obtain ⟨⟨z, rfl⟩, hop⟩ := hQ
  refine lv_aload_n hx hb dl_283 rfl (lv_at hl 2 rfl) ?_
  refine la_arg (i := i) (j := 1) X h0 h3 hL (by omega) hWd bk_284 ?_
  refine la_arg (i := i) (j := 2) X h0 h3 hL (by omega) hWd bk_289 ?_
  refine la_call (y := 116) (na := 2) (b0 := 50) (as := [.int (xs (i + 1)), .int (xs (i + 2))]) (rest := [.int z]) X hl.1 lw_42 rfl rfl (Nat.le_of_ble_eq_true rfl) hWd hop (Nat.le_of_ble_eq_true rfl) dl_294 hcl hst (fun r σ2 H locs hQ hWd => ?_)
  obtain ⟨⟨v, hv, rfl⟩, hI2⟩ := hQ
  cases hv
  exact lv_icmp_eq (tgt := 794) hx hb dl_297 (by decide) (fun _ => kk σ2 H locs hI2 hWd) (fun hne => absurd rfl hne)
/-- saying -/
theorem la_o6 {B i : Nat} (X : la_At dC dI cA ad p s m meth c b L xs) (hl : lv_has ls 4 [(0, .ref b), (1, .ref (ad 0)), (2, .ref (ad 50)), (3, .int (nI i))]) (hL : L ≤ 2560) (hi : i + 5 ≤ L) (hB1 : 99 ≤ B) (hB2 : B < 90000) (hI : Inv B σ) (hWd : la_Wd dC dI cA ad s σ H locs) (hcl : cells ≤ room_1.cells) (hst : slots ≤ room_1.slots)
    (kk : ∀ (σ1 : ab_St) (H1 : Heap) (locs1 : List Loc), Inv (B + 9) σ1 → la_Wd dC dI cA ad s σ1 H1 locs1 → W p l e room_1 s m #[Value.ref b] below meth c H1 locs1 cells slots Q (F0 m 794 ls [])) : W p l e room_1 s m #[Value.ref b] below meth c H locs cells slots Q (F0 m 302 ls []) := by
  have hx := X.1
  have hb := X.2.1
  have hown := X.2.2.2.2.1
  have hts := X.2.2.2.2.2.1
  have h0 := lv_at hl 0 rfl
  have h3 := lv_at hl 3 rfl
  refine lv_aload_n hx hb dl_302 rfl (lv_at hl 1 rfl) ?_
  refine la_arg (i := i) (j := 1) X h0 h3 hL (by omega) hWd bk_303 ?_
  refine la_arg (i := i) (j := 2) X h0 h3 hL (by omega) hWd bk_308 ?_
  have hop := op_saying (B := B) (σ := σ) (x := (xs (i + 1))) (w := (xs (i + 2))) hB2 hI
  refine la_call (y := 43) (na := 2) (b0 := 0) (as := [.int (xs (i + 1)), .int (xs (i + 2))]) (rest := []) X hl.1 lw_43 rfl rfl (Nat.le_of_ble_eq_true rfl) hWd (Ev.int hop rfl) (Nat.le_of_ble_eq_true rfl) dl_313 hcl hst (fun r σ1 H locs hQ hWd => ?_)
  obtain ⟨⟨z, rfl⟩, hop⟩ := hQ
  refine lv_aload_n hx hb dl_316 rfl (lv_at hl 2 rfl) ?_
  refine la_arg (i := i) (j := 1) X h0 h3 hL (by omega) hWd bk_317 ?_
  refine la_arg (i := i) (j := 2) X h0 h3 hL (by omega) hWd bk_322 ?_
  refine la_call (y := 118) (na := 2) (b0 := 50) (as := [.int (xs (i + 1)), .int (xs (i + 2))]) (rest := [.int z]) X hl.1 lw_46 rfl rfl (Nat.le_of_ble_eq_true rfl) hWd hop (Nat.le_of_ble_eq_true rfl) dl_327 hcl hst (fun r σ2 H locs hQ hWd => ?_)
  obtain ⟨⟨v, hv, rfl⟩, hI2⟩ := hQ
  cases hv
  exact lv_icmp_eq (tgt := 794) hx hb dl_330 (by decide) (fun _ => kk σ2 H locs hI2 hWd) (fun hne => absurd rfl hne)
/-- law -/
theorem la_o7 {B i : Nat} (X : la_At dC dI cA ad p s m meth c b L xs) (hl : lv_has ls 4 [(0, .ref b), (1, .ref (ad 0)), (2, .ref (ad 50)), (3, .int (nI i))]) (hL : L ≤ 2560) (hi : i + 5 ≤ L) (hB1 : 99 ≤ B) (hB2 : B < 90000) (hI : Inv B σ) (hWd : la_Wd dC dI cA ad s σ H locs) (hcl : cells ≤ room_1.cells) (hst : slots ≤ room_1.slots)
    (kk : ∀ (σ1 : ab_St) (H1 : Heap) (locs1 : List Loc), Inv (B + 9) σ1 → la_Wd dC dI cA ad s σ1 H1 locs1 → W p l e room_1 s m #[Value.ref b] below meth c H1 locs1 cells slots Q (F0 m 794 ls [])) : W p l e room_1 s m #[Value.ref b] below meth c H locs cells slots Q (F0 m 335 ls []) := by
  have hx := X.1
  have hb := X.2.1
  have hown := X.2.2.2.2.1
  have hts := X.2.2.2.2.2.1
  have h0 := lv_at hl 0 rfl
  have h3 := lv_at hl 3 rfl
  refine lv_aload_n hx hb dl_335 rfl (lv_at hl 1 rfl) ?_
  refine la_arg (i := i) (j := 1) X h0 h3 hL (by omega) hWd bk_336 ?_
  have hop := op_law (B := B) (σ := σ) (x := (xs (i + 1))) hI
  refine la_call (y := 44) (na := 1) (b0 := 0) (as := [.int (xs (i + 1))]) (rest := []) X hl.1 lw_47 rfl rfl (Nat.le_of_ble_eq_true rfl) hWd (Ev.int hop rfl) (Nat.le_of_ble_eq_true rfl) dl_341 hcl hst (fun r σ1 H locs hQ hWd => ?_)
  obtain ⟨⟨z, rfl⟩, hop⟩ := hQ
  refine lv_aload_n hx hb dl_344 rfl (lv_at hl 2 rfl) ?_
  refine la_arg (i := i) (j := 1) X h0 h3 hL (by omega) hWd bk_345 ?_
  refine la_call (y := 120) (na := 1) (b0 := 50) (as := [.int (xs (i + 1))]) (rest := [.int z]) X hl.1 lw_50 rfl rfl (Nat.le_of_ble_eq_true rfl) hWd hop (Nat.le_of_ble_eq_true rfl) dl_350 hcl hst (fun r σ2 H locs hQ hWd => ?_)
  obtain ⟨⟨v, hv, rfl⟩, hI2⟩ := hQ
  cases hv
  exact lv_icmp_eq (tgt := 794) hx hb dl_353 (by decide) (fun _ => kk σ2 H locs hI2 hWd) (fun hne => absurd rfl hne)
/-- may -/
theorem la_o8 {B i : Nat} (X : la_At dC dI cA ad p s m meth c b L xs) (hl : lv_has ls 4 [(0, .ref b), (1, .ref (ad 0)), (2, .ref (ad 50)), (3, .int (nI i))]) (hL : L ≤ 2560) (hi : i + 5 ≤ L) (hB1 : 99 ≤ B) (hB2 : B < 90000) (hI : Inv B σ) (hWd : la_Wd dC dI cA ad s σ H locs) (hcl : cells ≤ room_1.cells) (hst : slots ≤ room_1.slots)
    (kk : ∀ (σ1 : ab_St) (H1 : Heap) (locs1 : List Loc), Inv (B + 9) σ1 → la_Wd dC dI cA ad s σ1 H1 locs1 → W p l e room_1 s m #[Value.ref b] below meth c H1 locs1 cells slots Q (F0 m 794 ls [])) : W p l e room_1 s m #[Value.ref b] below meth c H locs cells slots Q (F0 m 358 ls []) := by
  have hx := X.1
  have hb := X.2.1
  have hown := X.2.2.2.2.1
  have hts := X.2.2.2.2.2.1
  have h0 := lv_at hl 0 rfl
  have h3 := lv_at hl 3 rfl
  refine lv_aload_n hx hb dl_358 rfl (lv_at hl 1 rfl) ?_
  refine la_arg (i := i) (j := 1) X h0 h3 hL (by omega) hWd bk_359 ?_
  have hop := op_may (B := B) (σ := σ) (x := (xs (i + 1))) hB2 hI
  refine la_call (y := 45) (na := 1) (b0 := 0) (as := [.int (xs (i + 1))]) (rest := []) X hl.1 lw_51 rfl rfl (Nat.le_of_ble_eq_true rfl) hWd (Ev.int hop rfl) (Nat.le_of_ble_eq_true rfl) dl_364 hcl hst (fun r σ1 H locs hQ hWd => ?_)
  obtain ⟨⟨z, rfl⟩, hop⟩ := hQ
  refine lv_aload_n hx hb dl_367 rfl (lv_at hl 2 rfl) ?_
  refine la_arg (i := i) (j := 1) X h0 h3 hL (by omega) hWd bk_368 ?_
  refine la_call (y := 121) (na := 1) (b0 := 50) (as := [.int (xs (i + 1))]) (rest := [.int z]) X hl.1 lw_54 rfl rfl (Nat.le_of_ble_eq_true rfl) hWd hop (Nat.le_of_ble_eq_true rfl) dl_373 hcl hst (fun r σ2 H locs hQ hWd => ?_)
  obtain ⟨⟨v, hv, rfl⟩, hI2⟩ := hQ
  cases hv
  exact lv_icmp_eq (tgt := 794) hx hb dl_376 (by decide) (fun _ => kk σ2 H locs hI2 hWd) (fun hne => absurd rfl hne)
/-- say -/
theorem la_o9 {B i : Nat} (X : la_At dC dI cA ad p s m meth c b L xs) (hl : lv_has ls 4 [(0, .ref b), (1, .ref (ad 0)), (2, .ref (ad 50)), (3, .int (nI i))]) (hL : L ≤ 2560) (hi : i + 5 ≤ L) (hB1 : 99 ≤ B) (hB2 : B < 90000) (hI : Inv B σ) (hWd : la_Wd dC dI cA ad s σ H locs) (hcl : cells ≤ room_1.cells) (hst : slots ≤ room_1.slots)
    (kk : ∀ (σ1 : ab_St) (H1 : Heap) (locs1 : List Loc), Inv (B + 9) σ1 → la_Wd dC dI cA ad s σ1 H1 locs1 → W p l e room_1 s m #[Value.ref b] below meth c H1 locs1 cells slots Q (F0 m 794 ls [])) : W p l e room_1 s m #[Value.ref b] below meth c H locs cells slots Q (F0 m 381 ls []) := by
  have hx := X.1
  have hb := X.2.1
  have hown := X.2.2.2.2.1
  have hts := X.2.2.2.2.2.1
  have h0 := lv_at hl 0 rfl
  have h3 := lv_at hl 3 rfl
  refine lv_aload_n hx hb dl_381 rfl (lv_at hl 1 rfl) ?_
  refine la_arg (i := i) (j := 1) X h0 h3 hL (by omega) hWd bk_382 ?_
  have hop := op_say (B := B) (σ := σ) (x := (xs (i + 1))) hB2 hI
  refine la_call (y := 47) (na := 1) (b0 := 0) (as := [.int (xs (i + 1))]) (rest := []) X hl.1 lw_55 rfl rfl (Nat.le_of_ble_eq_true rfl) hWd (Ev.int hop rfl) (Nat.le_of_ble_eq_true rfl) dl_387 hcl hst (fun r σ1 H locs hQ hWd => ?_)
  obtain ⟨⟨z, rfl⟩, hop⟩ := hQ
  refine lv_aload_n hx hb dl_390 rfl (lv_at hl 2 rfl) ?_
  refine la_arg (i := i) (j := 1) X h0 h3 hL (by omega) hWd bk_391 ?_
  refine la_call (y := 123) (na := 1) (b0 := 50) (as := [.int (xs (i + 1))]) (rest := [.int z]) X hl.1 lw_58 rfl rfl (Nat.le_of_ble_eq_true rfl) hWd hop (Nat.le_of_ble_eq_true rfl) dl_396 hcl hst (fun r σ2 H locs hQ hWd => ?_)
  obtain ⟨⟨v, hv, rfl⟩, hI2⟩ := hQ
  cases hv
  exact lv_icmp_eq (tgt := 794) hx hb dl_399 (by decide) (fun _ => kk σ2 H locs hI2 hWd) (fun hne => absurd rfl hne)
/-- talk -/
theorem la_o10 {B i : Nat} (X : la_At dC dI cA ad p s m meth c b L xs) (hl : lv_has ls 4 [(0, .ref b), (1, .ref (ad 0)), (2, .ref (ad 50)), (3, .int (nI i))]) (hL : L ≤ 2560) (hi : i + 5 ≤ L) (hB1 : 99 ≤ B) (hB2 : B < 90000) (hI : Inv B σ) (hWd : la_Wd dC dI cA ad s σ H locs) (hcl : cells ≤ room_1.cells) (hst : slots ≤ room_1.slots)
    (kk : ∀ (σ1 : ab_St) (H1 : Heap) (locs1 : List Loc), Inv (B + 9) σ1 → la_Wd dC dI cA ad s σ1 H1 locs1 → W p l e room_1 s m #[Value.ref b] below meth c H1 locs1 cells slots Q (F0 m 794 ls [])) : W p l e room_1 s m #[Value.ref b] below meth c H locs cells slots Q (F0 m 404 ls []) := by
  have hx := X.1
  have hb := X.2.1
  have hown := X.2.2.2.2.1
  have hts := X.2.2.2.2.2.1
  have h0 := lv_at hl 0 rfl
  have h3 := lv_at hl 3 rfl
  refine lv_aload_n hx hb dl_404 rfl (lv_at hl 1 rfl) ?_
  refine la_arg (i := i) (j := 1) X h0 h3 hL (by omega) hWd bk_405 ?_
  refine la_arg (i := i) (j := 2) X h0 h3 hL (by omega) hWd bk_410 ?_
  have hop := op_talk (B := B) (σ := σ) (x := (xs (i + 1))) (y := (xs (i + 2))) hB2 hI
  refine la_call (y := 50) (na := 2) (b0 := 0) (as := [.int (xs (i + 1)), .int (xs (i + 2))]) (rest := []) X hl.1 lw_59 rfl rfl (Nat.le_of_ble_eq_true rfl) hWd (Ev.int hop rfl) (Nat.le_of_ble_eq_true rfl) dl_415 hcl hst (fun r σ1 H locs hQ hWd => ?_)
  obtain ⟨⟨z, rfl⟩, hop⟩ := hQ
  refine lv_aload_n hx hb dl_418 rfl (lv_at hl 2 rfl) ?_
  refine la_arg (i := i) (j := 1) X h0 h3 hL (by omega) hWd bk_419 ?_
  refine la_arg (i := i) (j := 2) X h0 h3 hL (by omega) hWd bk_424 ?_
  refine la_call (y := 126) (na := 2) (b0 := 50) (as := [.int (xs (i + 1)), .int (xs (i + 2))]) (rest := [.int z]) X hl.1 lw_62 rfl rfl (Nat.le_of_ble_eq_true rfl) hWd hop (Nat.le_of_ble_eq_true rfl) dl_429 hcl hst (fun r σ2 H locs hQ hWd => ?_)
  obtain ⟨⟨v, hv, rfl⟩, hI2⟩ := hQ
  cases hv
  exact lv_icmp_eq (tgt := 794) hx hb dl_432 (by decide) (fun _ => kk σ2 H locs hI2 hWd) (fun hne => absurd rfl hne)
/-- come -/
theorem la_o11 {B i : Nat} (X : la_At dC dI cA ad p s m meth c b L xs) (hl : lv_has ls 4 [(0, .ref b), (1, .ref (ad 0)), (2, .ref (ad 50)), (3, .int (nI i))]) (hL : L ≤ 2560) (hi : i + 5 ≤ L) (hB1 : 99 ≤ B) (hB2 : B < 90000) (hI : Inv B σ) (hWd : la_Wd dC dI cA ad s σ H locs) (hcl : cells ≤ room_1.cells) (hst : slots ≤ room_1.slots)
    (kk : ∀ (σ1 : ab_St) (H1 : Heap) (locs1 : List Loc), Inv (B + 9) σ1 → la_Wd dC dI cA ad s σ1 H1 locs1 → W p l e room_1 s m #[Value.ref b] below meth c H1 locs1 cells slots Q (F0 m 794 ls [])) : W p l e room_1 s m #[Value.ref b] below meth c H locs cells slots Q (F0 m 437 ls []) := by
  have hx := X.1
  have hb := X.2.1
  have hown := X.2.2.2.2.1
  have hts := X.2.2.2.2.2.1
  have h0 := lv_at hl 0 rfl
  have h3 := lv_at hl 3 rfl
  refine lv_aload_n hx hb dl_437 rfl (lv_at hl 1 rfl) ?_
  refine la_arg (i := i) (j := 1) X h0 h3 hL (by omega) hWd bk_438 ?_
  have hop := op_come (B := B) (σ := σ) (x := (xs (i + 1))) hB2 hI
  refine la_call (y := 51) (na := 1) (b0 := 0) (as := [.int (xs (i + 1))]) (rest := []) X hl.1 lw_63 rfl rfl (Nat.le_of_ble_eq_true rfl) hWd (Ev.int hop rfl) (Nat.le_of_ble_eq_true rfl) dl_443 hcl hst (fun r σ1 H locs hQ hWd => ?_)
  obtain ⟨⟨z, rfl⟩, hop⟩ := hQ
  refine lv_aload_n hx hb dl_446 rfl (lv_at hl 2 rfl) ?_
  refine la_arg (i := i) (j := 1) X h0 h3 hL (by omega) hWd bk_447 ?_
  refine la_call (y := 127) (na := 1) (b0 := 50) (as := [.int (xs (i + 1))]) (rest := [.int z]) X hl.1 lw_66 rfl rfl (Nat.le_of_ble_eq_true rfl) hWd hop (Nat.le_of_ble_eq_true rfl) dl_452 hcl hst (fun r σ2 H locs hQ hWd => ?_)
  obtain ⟨⟨v, hv, rfl⟩, hI2⟩ := hQ
  cases hv
  exact lv_icmp_eq (tgt := 794) hx hb dl_455 (by decide) (fun _ => kk σ2 H locs hI2 hWd) (fun hne => absurd rfl hne)
/-- go -/
theorem la_o12 {B i : Nat} (X : la_At dC dI cA ad p s m meth c b L xs) (hl : lv_has ls 4 [(0, .ref b), (1, .ref (ad 0)), (2, .ref (ad 50)), (3, .int (nI i))]) (hL : L ≤ 2560) (hi : i + 5 ≤ L) (hB1 : 99 ≤ B) (hB2 : B < 90000) (hI : Inv B σ) (hWd : la_Wd dC dI cA ad s σ H locs) (hcl : cells ≤ room_1.cells) (hst : slots ≤ room_1.slots)
    (kk : ∀ (σ1 : ab_St) (H1 : Heap) (locs1 : List Loc), Inv (B + 9) σ1 → la_Wd dC dI cA ad s σ1 H1 locs1 → W p l e room_1 s m #[Value.ref b] below meth c H1 locs1 cells slots Q (F0 m 794 ls [])) : W p l e room_1 s m #[Value.ref b] below meth c H locs cells slots Q (F0 m 460 ls []) := by
  have hx := X.1
  have hb := X.2.1
  have hown := X.2.2.2.2.1
  have hts := X.2.2.2.2.2.1
  have h0 := lv_at hl 0 rfl
  have h3 := lv_at hl 3 rfl
  refine lv_aload_n hx hb dl_460 rfl (lv_at hl 1 rfl) ?_
  refine la_arg (i := i) (j := 1) X h0 h3 hL (by omega) hWd bk_461 ?_
  have hop := op_go (B := B) (σ := σ) (x := (xs (i + 1))) hB2 hI
  refine la_call (y := 57) (na := 1) (b0 := 0) (as := [.int (xs (i + 1))]) (rest := []) X hl.1 lw_67 rfl rfl (Nat.le_of_ble_eq_true rfl) hWd (Ev.int hop rfl) (Nat.le_of_ble_eq_true rfl) dl_466 hcl hst (fun r σ1 H locs hQ hWd => ?_)
  obtain ⟨⟨z, rfl⟩, hop⟩ := hQ
  refine lv_aload_n hx hb dl_469 rfl (lv_at hl 2 rfl) ?_
  refine la_arg (i := i) (j := 1) X h0 h3 hL (by omega) hWd bk_470 ?_
  refine la_call (y := 128) (na := 1) (b0 := 50) (as := [.int (xs (i + 1))]) (rest := [.int z]) X hl.1 lw_70 rfl rfl (Nat.le_of_ble_eq_true rfl) hWd hop (Nat.le_of_ble_eq_true rfl) dl_475 hcl hst (fun r σ2 H locs hQ hWd => ?_)
  obtain ⟨⟨v, hv, rfl⟩, hI2⟩ := hQ
  cases hv
  exact lv_icmp_eq (tgt := 794) hx hb dl_478 (by decide) (fun _ => kk σ2 H locs hI2 hWd) (fun hne => absurd rfl hne)
/-- undo -/
theorem la_o13 {B i : Nat} (X : la_At dC dI cA ad p s m meth c b L xs) (hl : lv_has ls 4 [(0, .ref b), (1, .ref (ad 0)), (2, .ref (ad 50)), (3, .int (nI i))]) (hL : L ≤ 2560) (hi : i + 5 ≤ L) (hB1 : 99 ≤ B) (hB2 : B < 90000) (hI : Inv B σ) (hWd : la_Wd dC dI cA ad s σ H locs) (hcl : cells ≤ room_1.cells) (hst : slots ≤ room_1.slots)
    (kk : ∀ (σ1 : ab_St) (H1 : Heap) (locs1 : List Loc), Inv (B + 9) σ1 → la_Wd dC dI cA ad s σ1 H1 locs1 → W p l e room_1 s m #[Value.ref b] below meth c H1 locs1 cells slots Q (F0 m 794 ls [])) : W p l e room_1 s m #[Value.ref b] below meth c H locs cells slots Q (F0 m 483 ls []) := by
  have hx := X.1
  have hb := X.2.1
  have hown := X.2.2.2.2.1
  have hts := X.2.2.2.2.2.1
  have h0 := lv_at hl 0 rfl
  have h3 := lv_at hl 3 rfl
  refine lv_aload_n hx hb dl_483 rfl (lv_at hl 1 rfl) ?_
  have hop := op_undo (B := B) (σ := σ)  hI
  refine la_call (y := 58) (na := 0) (b0 := 0) (as := []) (rest := []) X hl.1 lw_71 rfl rfl (Nat.le_of_ble_eq_true rfl) hWd (Ev.int hop rfl) (Nat.le_of_ble_eq_true rfl) dl_484 hcl hst (fun r σ1 H locs hQ hWd => ?_)
  obtain ⟨⟨z, rfl⟩, hop⟩ := hQ
  refine lv_aload_n hx hb dl_487 rfl (lv_at hl 2 rfl) ?_
  refine la_call (y := 130) (na := 0) (b0 := 50) (as := []) (rest := [.int z]) X hl.1 lw_74 rfl rfl (Nat.le_of_ble_eq_true rfl) hWd hop (Nat.le_of_ble_eq_true rfl) dl_488 hcl hst (fun r σ2 H locs hQ hWd => ?_)
  obtain ⟨⟨v, hv, rfl⟩, hI2⟩ := hQ
  cases hv
  exact lv_icmp_eq (tgt := 794) hx hb dl_491 (by decide) (fun _ => kk σ2 H locs hI2 hWd) (fun hne => absurd rfl hne)
/-- judge -/
theorem la_o14 {B i : Nat} (X : la_At dC dI cA ad p s m meth c b L xs) (hl : lv_has ls 4 [(0, .ref b), (1, .ref (ad 0)), (2, .ref (ad 50)), (3, .int (nI i))]) (hL : L ≤ 2560) (hi : i + 5 ≤ L) (hB1 : 99 ≤ B) (hB2 : B < 90000) (hI : Inv B σ) (hWd : la_Wd dC dI cA ad s σ H locs) (hcl : cells ≤ room_1.cells) (hst : slots ≤ room_1.slots)
    (kk : ∀ (σ1 : ab_St) (H1 : Heap) (locs1 : List Loc), Inv (B + 9) σ1 → la_Wd dC dI cA ad s σ1 H1 locs1 → W p l e room_1 s m #[Value.ref b] below meth c H1 locs1 cells slots Q (F0 m 794 ls [])) : W p l e room_1 s m #[Value.ref b] below meth c H locs cells slots Q (F0 m 496 ls []) := by
  have hx := X.1
  have hb := X.2.1
  have hown := X.2.2.2.2.1
  have hts := X.2.2.2.2.2.1
  have h0 := lv_at hl 0 rfl
  have h3 := lv_at hl 3 rfl
  refine lv_aload_n hx hb dl_496 rfl (lv_at hl 1 rfl) ?_
  refine la_arg (i := i) (j := 1) X h0 h3 hL (by omega) hWd bk_497 ?_
  refine la_arg (i := i) (j := 2) X h0 h3 hL (by omega) hWd bk_502 ?_
  have hop := op_judge (B := B) (σ := σ) (x := (xs (i + 1))) (y := (xs (i + 2))) hB2 hI
  refine la_call (y := 60) (na := 2) (b0 := 0) (as := [.int (xs (i + 1)), .int (xs (i + 2))]) (rest := []) X hl.1 lw_75 rfl rfl (Nat.le_of_ble_eq_true rfl) hWd (Ev.int hop rfl) (Nat.le_of_ble_eq_true rfl) dl_507 hcl hst (fun r σ1 H locs hQ hWd => ?_)
  obtain ⟨⟨z, rfl⟩, hop⟩ := hQ
  refine lv_aload_n hx hb dl_510 rfl (lv_at hl 2 rfl) ?_
  refine la_arg (i := i) (j := 1) X h0 h3 hL (by omega) hWd bk_511 ?_
  refine la_arg (i := i) (j := 2) X h0 h3 hL (by omega) hWd bk_516 ?_
  refine la_call (y := 132) (na := 2) (b0 := 50) (as := [.int (xs (i + 1)), .int (xs (i + 2))]) (rest := [.int z]) X hl.1 lw_78 rfl rfl (Nat.le_of_ble_eq_true rfl) hWd hop (Nat.le_of_ble_eq_true rfl) dl_521 hcl hst (fun r σ2 H locs hQ hWd => ?_)
  obtain ⟨⟨v, hv, rfl⟩, hI2⟩ := hQ
  cases hv
  exact lv_icmp_eq (tgt := 794) hx hb dl_524 (by decide) (fun _ => kk σ2 H locs hI2 hWd) (fun hne => absurd rfl hne)
/-- most -/
theorem la_o15 {B i : Nat} (X : la_At dC dI cA ad p s m meth c b L xs) (hl : lv_has ls 4 [(0, .ref b), (1, .ref (ad 0)), (2, .ref (ad 50)), (3, .int (nI i))]) (hL : L ≤ 2560) (hi : i + 5 ≤ L) (hB1 : 99 ≤ B) (hB2 : B < 90000) (hI : Inv B σ) (hWd : la_Wd dC dI cA ad s σ H locs) (hcl : cells ≤ room_1.cells) (hst : slots ≤ room_1.slots)
    (kk : ∀ (σ1 : ab_St) (H1 : Heap) (locs1 : List Loc), Inv (B + 9) σ1 → la_Wd dC dI cA ad s σ1 H1 locs1 → W p l e room_1 s m #[Value.ref b] below meth c H1 locs1 cells slots Q (F0 m 794 ls [])) : W p l e room_1 s m #[Value.ref b] below meth c H locs cells slots Q (F0 m 529 ls []) := by
  have hx := X.1
  have hb := X.2.1
  have hown := X.2.2.2.2.1
  have hts := X.2.2.2.2.2.1
  have h0 := lv_at hl 0 rfl
  have h3 := lv_at hl 3 rfl
  refine lv_aload_n hx hb dl_529 rfl (lv_at hl 1 rfl) ?_
  refine la_arg (i := i) (j := 1) X h0 h3 hL (by omega) hWd bk_530 ?_
  have hop := op_most (B := B) (σ := σ) (x := (xs (i + 1))) hB2 hI
  refine la_call (y := 61) (na := 1) (b0 := 0) (as := [.int (xs (i + 1))]) (rest := []) X hl.1 lw_79 rfl rfl (Nat.le_of_ble_eq_true rfl) hWd (Ev.int hop rfl) (Nat.le_of_ble_eq_true rfl) dl_535 hcl hst (fun r σ1 H locs hQ hWd => ?_)
  obtain ⟨⟨z, rfl⟩, hop⟩ := hQ
  refine lv_aload_n hx hb dl_538 rfl (lv_at hl 2 rfl) ?_
  refine la_arg (i := i) (j := 1) X h0 h3 hL (by omega) hWd bk_539 ?_
  refine la_call (y := 134) (na := 1) (b0 := 50) (as := [.int (xs (i + 1))]) (rest := [.int z]) X hl.1 lw_82 rfl rfl (Nat.le_of_ble_eq_true rfl) hWd hop (Nat.le_of_ble_eq_true rfl) dl_544 hcl hst (fun r σ2 H locs hQ hWd => ?_)
  obtain ⟨⟨v, hv, rfl⟩, hI2⟩ := hQ
  cases hv
  exact lv_icmp_eq (tgt := 794) hx hb dl_547 (by decide) (fun _ => kk σ2 H locs hI2 hWd) (fun hne => absurd rfl hne)
/-- mostAt -/
theorem la_o16 {B i : Nat} (X : la_At dC dI cA ad p s m meth c b L xs) (hl : lv_has ls 4 [(0, .ref b), (1, .ref (ad 0)), (2, .ref (ad 50)), (3, .int (nI i))]) (hL : L ≤ 2560) (hi : i + 5 ≤ L) (hB1 : 99 ≤ B) (hB2 : B < 90000) (hI : Inv B σ) (hWd : la_Wd dC dI cA ad s σ H locs) (hcl : cells ≤ room_1.cells) (hst : slots ≤ room_1.slots)
    (kk : ∀ (σ1 : ab_St) (H1 : Heap) (locs1 : List Loc), Inv (B + 9) σ1 → la_Wd dC dI cA ad s σ1 H1 locs1 → W p l e room_1 s m #[Value.ref b] below meth c H1 locs1 cells slots Q (F0 m 794 ls [])) : W p l e room_1 s m #[Value.ref b] below meth c H locs cells slots Q (F0 m 552 ls []) := by
  have hx := X.1
  have hb := X.2.1
  have hown := X.2.2.2.2.1
  have hts := X.2.2.2.2.2.1
  have h0 := lv_at hl 0 rfl
  have h3 := lv_at hl 3 rfl
  refine lv_aload_n hx hb dl_552 rfl (lv_at hl 1 rfl) ?_
  refine la_arg (i := i) (j := 1) X h0 h3 hL (by omega) hWd bk_553 ?_
  refine la_arg (i := i) (j := 2) X h0 h3 hL (by omega) hWd bk_558 ?_
  have hop := op_mostAt (B := B) (σ := σ) (x := (xs (i + 1))) (y := (xs (i + 2))) hB2 hI
  refine la_call (y := 70) (na := 2) (b0 := 0) (as := [.int (xs (i + 1)), .int (xs (i + 2))]) (rest := []) X hl.1 lw_83 rfl rfl (Nat.le_of_ble_eq_true rfl) hWd (Ev.int hop rfl) (Nat.le_of_ble_eq_true rfl) dl_563 hcl hst (fun r σ1 H locs hQ hWd => ?_)
  obtain ⟨⟨z, rfl⟩, hop⟩ := hQ
  refine lv_aload_n hx hb dl_566 rfl (lv_at hl 2 rfl) ?_
  refine la_arg (i := i) (j := 1) X h0 h3 hL (by omega) hWd bk_567 ?_
  refine la_arg (i := i) (j := 2) X h0 h3 hL (by omega) hWd bk_572 ?_
  refine la_call (y := 137) (na := 2) (b0 := 50) (as := [.int (xs (i + 1)), .int (xs (i + 2))]) (rest := [.int z]) X hl.1 lw_86 rfl rfl (Nat.le_of_ble_eq_true rfl) hWd hop (Nat.le_of_ble_eq_true rfl) dl_577 hcl hst (fun r σ2 H locs hQ hWd => ?_)
  obtain ⟨⟨v, hv, rfl⟩, hI2⟩ := hQ
  cases hv
  exact lv_icmp_eq (tgt := 794) hx hb dl_580 (by decide) (fun _ => kk σ2 H locs hI2 hWd) (fun hne => absurd rfl hne)
/-- soon -/
theorem la_o17 {B i : Nat} (X : la_At dC dI cA ad p s m meth c b L xs) (hl : lv_has ls 4 [(0, .ref b), (1, .ref (ad 0)), (2, .ref (ad 50)), (3, .int (nI i))]) (hL : L ≤ 2560) (hi : i + 5 ≤ L) (hB1 : 99 ≤ B) (hB2 : B < 90000) (hI : Inv B σ) (hWd : la_Wd dC dI cA ad s σ H locs) (hcl : cells ≤ room_1.cells) (hst : slots ≤ room_1.slots)
    (kk : ∀ (σ1 : ab_St) (H1 : Heap) (locs1 : List Loc), Inv (B + 9) σ1 → la_Wd dC dI cA ad s σ1 H1 locs1 → W p l e room_1 s m #[Value.ref b] below meth c H1 locs1 cells slots Q (F0 m 794 ls [])) : W p l e room_1 s m #[Value.ref b] below meth c H locs cells slots Q (F0 m 585 ls []) := by
  have hx := X.1
  have hb := X.2.1
  have hown := X.2.2.2.2.1
  have hts := X.2.2.2.2.2.1
  have h0 := lv_at hl 0 rfl
  have h3 := lv_at hl 3 rfl
  refine lv_aload_n hx hb dl_585 rfl (lv_at hl 1 rfl) ?_
  refine la_arg (i := i) (j := 1) X h0 h3 hL (by omega) hWd bk_586 ?_
  have hop := op_soon (B := B) (σ := σ) (x := (xs (i + 1))) hB2 hI
  refine la_call (y := 75) (na := 1) (b0 := 0) (as := [.int (xs (i + 1))]) (rest := []) X hl.1 lw_87 rfl rfl (Nat.le_of_ble_eq_true rfl) hWd (Ev.int hop rfl) (Nat.le_of_ble_eq_true rfl) dl_591 hcl hst (fun r σ1 H locs hQ hWd => ?_)
  obtain ⟨⟨z, rfl⟩, hop⟩ := hQ
  refine lv_aload_n hx hb dl_594 rfl (lv_at hl 2 rfl) ?_
  refine la_arg (i := i) (j := 1) X h0 h3 hL (by omega) hWd bk_595 ?_
  refine la_call (y := 138) (na := 1) (b0 := 50) (as := [.int (xs (i + 1))]) (rest := [.int z]) X hl.1 lw_90 rfl rfl (Nat.le_of_ble_eq_true rfl) hWd hop (Nat.le_of_ble_eq_true rfl) dl_600 hcl hst (fun r σ2 H locs hQ hWd => ?_)
  obtain ⟨⟨v, hv, rfl⟩, hI2⟩ := hQ
  cases hv
  exact lv_icmp_eq (tgt := 794) hx hb dl_603 (by decide) (fun _ => kk σ2 H locs hI2 hWd) (fun hne => absurd rfl hne)
/-- need -/
theorem la_o18 {B i : Nat} (X : la_At dC dI cA ad p s m meth c b L xs) (hl : lv_has ls 4 [(0, .ref b), (1, .ref (ad 0)), (2, .ref (ad 50)), (3, .int (nI i))]) (hL : L ≤ 2560) (hi : i + 5 ≤ L) (hB1 : 99 ≤ B) (hB2 : B < 90000) (hI : Inv B σ) (hWd : la_Wd dC dI cA ad s σ H locs) (hcl : cells ≤ room_1.cells) (hst : slots ≤ room_1.slots)
    (kk : ∀ (σ1 : ab_St) (H1 : Heap) (locs1 : List Loc), Inv (B + 9) σ1 → la_Wd dC dI cA ad s σ1 H1 locs1 → W p l e room_1 s m #[Value.ref b] below meth c H1 locs1 cells slots Q (F0 m 794 ls [])) : W p l e room_1 s m #[Value.ref b] below meth c H locs cells slots Q (F0 m 608 ls []) := by
  have hx := X.1
  have hb := X.2.1
  have hown := X.2.2.2.2.1
  have hts := X.2.2.2.2.2.1
  have h0 := lv_at hl 0 rfl
  have h3 := lv_at hl 3 rfl
  refine lv_aload_n hx hb dl_608 rfl (lv_at hl 1 rfl) ?_
  refine la_arg (i := i) (j := 1) X h0 h3 hL (by omega) hWd bk_609 ?_
  have hop := op_need (B := B) (σ := σ) (x := (xs (i + 1))) hB2 hI
  refine la_call (y := 77) (na := 1) (b0 := 0) (as := [.int (xs (i + 1))]) (rest := []) X hl.1 lw_91 rfl rfl (Nat.le_of_ble_eq_true rfl) hWd (Ev.int hop rfl) (Nat.le_of_ble_eq_true rfl) dl_614 hcl hst (fun r σ1 H locs hQ hWd => ?_)
  obtain ⟨⟨z, rfl⟩, hop⟩ := hQ
  refine lv_aload_n hx hb dl_617 rfl (lv_at hl 2 rfl) ?_
  refine la_arg (i := i) (j := 1) X h0 h3 hL (by omega) hWd bk_618 ?_
  refine la_call (y := 139) (na := 1) (b0 := 50) (as := [.int (xs (i + 1))]) (rest := [.int z]) X hl.1 lw_94 rfl rfl (Nat.le_of_ble_eq_true rfl) hWd hop (Nat.le_of_ble_eq_true rfl) dl_623 hcl hst (fun r σ2 H locs hQ hWd => ?_)
  obtain ⟨⟨v, hv, rfl⟩, hI2⟩ := hQ
  cases hv
  exact lv_icmp_eq (tgt := 794) hx hb dl_626 (by decide) (fun _ => kk σ2 H locs hI2 hWd) (fun hne => absurd rfl hne)
/-- each -/
theorem la_o19 {B i : Nat} (X : la_At dC dI cA ad p s m meth c b L xs) (hl : lv_has ls 4 [(0, .ref b), (1, .ref (ad 0)), (2, .ref (ad 50)), (3, .int (nI i))]) (hL : L ≤ 2560) (hi : i + 5 ≤ L) (hB1 : 99 ≤ B) (hB2 : B < 90000) (hI : Inv B σ) (hWd : la_Wd dC dI cA ad s σ H locs) (hcl : cells ≤ room_1.cells) (hst : slots ≤ room_1.slots)
    (kk : ∀ (σ1 : ab_St) (H1 : Heap) (locs1 : List Loc), Inv (B + 9) σ1 → la_Wd dC dI cA ad s σ1 H1 locs1 → W p l e room_1 s m #[Value.ref b] below meth c H1 locs1 cells slots Q (F0 m 794 ls [])) : W p l e room_1 s m #[Value.ref b] below meth c H locs cells slots Q (F0 m 631 ls []) := by
  have hx := X.1
  have hb := X.2.1
  have hown := X.2.2.2.2.1
  have hts := X.2.2.2.2.2.1
  have h0 := lv_at hl 0 rfl
  have h3 := lv_at hl 3 rfl
  refine lv_aload_n hx hb dl_631 rfl (lv_at hl 1 rfl) ?_
  have hop := op_each (B := B) (σ := σ)  hB2 hI
  refine la_call (y := 79) (na := 0) (b0 := 0) (as := []) (rest := []) X hl.1 lw_95 rfl rfl (Nat.le_of_ble_eq_true rfl) hWd (Ev.int hop rfl) (Nat.le_of_ble_eq_true rfl) dl_632 hcl hst (fun r σ1 H locs hQ hWd => ?_)
  obtain ⟨⟨z, rfl⟩, hop⟩ := hQ
  refine lv_aload_n hx hb dl_635 rfl (lv_at hl 2 rfl) ?_
  refine la_call (y := 140) (na := 0) (b0 := 50) (as := []) (rest := [.int z]) X hl.1 lw_98 rfl rfl (Nat.le_of_ble_eq_true rfl) hWd hop (Nat.le_of_ble_eq_true rfl) dl_636 hcl hst (fun r σ2 H locs hQ hWd => ?_)
  obtain ⟨⟨v, hv, rfl⟩, hI2⟩ := hQ
  cases hv
  exact lv_icmp_eq (tgt := 794) hx hb dl_639 (by decide) (fun _ => kk σ2 H locs hI2 hWd) (fun hne => absurd rfl hne)
/-- out -/
theorem la_o20 {B i : Nat} (X : la_At dC dI cA ad p s m meth c b L xs) (hl : lv_has ls 4 [(0, .ref b), (1, .ref (ad 0)), (2, .ref (ad 50)), (3, .int (nI i))]) (hL : L ≤ 2560) (hi : i + 5 ≤ L) (hB1 : 99 ≤ B) (hB2 : B < 90000) (hI : Inv B σ) (hWd : la_Wd dC dI cA ad s σ H locs) (hcl : cells ≤ room_1.cells) (hst : slots ≤ room_1.slots)
    (kk : ∀ (σ1 : ab_St) (H1 : Heap) (locs1 : List Loc), Inv (B + 9) σ1 → la_Wd dC dI cA ad s σ1 H1 locs1 → W p l e room_1 s m #[Value.ref b] below meth c H1 locs1 cells slots Q (F0 m 794 ls [])) : W p l e room_1 s m #[Value.ref b] below meth c H locs cells slots Q (F0 m 644 ls []) := by
  have hx := X.1
  have hb := X.2.1
  have hown := X.2.2.2.2.1
  have hts := X.2.2.2.2.2.1
  have h0 := lv_at hl 0 rfl
  have h3 := lv_at hl 3 rfl
  refine lv_aload_n hx hb dl_644 rfl (lv_at hl 1 rfl) ?_
  refine la_arg (i := i) (j := 1) X h0 h3 hL (by omega) hWd bk_645 ?_
  refine la_arg (i := i) (j := 2) X h0 h3 hL (by omega) hWd bk_650 ?_
  have hop := op_out (B := B) (σ := σ) (x := (xs (i + 1))) (y := (xs (i + 2))) hB2 hI
  refine la_call (y := 85) (na := 2) (b0 := 0) (as := [.int (xs (i + 1)), .int (xs (i + 2))]) (rest := []) X hl.1 lw_99 rfl rfl (Nat.le_of_ble_eq_true rfl) hWd (Ev.long hop rfl) (Nat.le_of_ble_eq_true rfl) dl_655 hcl hst (fun r σ1 H locs hQ hWd => ?_)
  obtain ⟨⟨z, rfl⟩, hop⟩ := hQ
  refine lv_aload_n hx hb dl_658 rfl (lv_at hl 2 rfl) ?_
  refine la_arg (i := i) (j := 1) X h0 h3 hL (by omega) hWd bk_659 ?_
  refine la_arg (i := i) (j := 2) X h0 h3 hL (by omega) hWd bk_664 ?_
  refine la_call (y := 142) (na := 2) (b0 := 50) (as := [.int (xs (i + 1)), .int (xs (i + 2))]) (rest := [.long z]) X hl.1 lw_103 rfl rfl (Nat.le_of_ble_eq_true rfl) hWd hop (Nat.le_of_ble_eq_true rfl) dl_669 hcl hst (fun r σ2 H locs hQ hWd => ?_)
  obtain ⟨⟨v, hv, rfl⟩, hI2⟩ := hQ
  cases hv
  refine W.lcmp hx hb dl_672 ?_
  exact lv_if_eq (tgt := 794) hx hb dl_673 (by decide) (fun _ => kk σ2 H locs hI2 hWd) (fun hne => absurd (la_cmp z) hne)
/-- chance -/
theorem la_o21 {B i : Nat} (X : la_At dC dI cA ad p s m meth c b L xs) (hl : lv_has ls 4 [(0, .ref b), (1, .ref (ad 0)), (2, .ref (ad 50)), (3, .int (nI i))]) (hL : L ≤ 2560) (hi : i + 5 ≤ L) (hB1 : 99 ≤ B) (hB2 : B < 90000) (hI : Inv B σ) (hWd : la_Wd dC dI cA ad s σ H locs) (hcl : cells ≤ room_1.cells) (hst : slots ≤ room_1.slots)
    (kk : ∀ (σ1 : ab_St) (H1 : Heap) (locs1 : List Loc), Inv (B + 9) σ1 → la_Wd dC dI cA ad s σ1 H1 locs1 → W p l e room_1 s m #[Value.ref b] below meth c H1 locs1 cells slots Q (F0 m 794 ls [])) : W p l e room_1 s m #[Value.ref b] below meth c H locs cells slots Q (F0 m 678 ls []) := by
  have hx := X.1
  have hb := X.2.1
  have hown := X.2.2.2.2.1
  have hts := X.2.2.2.2.2.1
  have h0 := lv_at hl 0 rfl
  have h3 := lv_at hl 3 rfl
  refine lv_aload_n hx hb dl_678 rfl (lv_at hl 1 rfl) ?_
  refine la_arg (i := i) (j := 1) X h0 h3 hL (by omega) hWd bk_679 ?_
  refine la_arg (i := i) (j := 2) X h0 h3 hL (by omega) hWd bk_684 ?_
  refine la_arg (i := i) (j := 3) X h0 h3 hL (by omega) hWd bk_689 ?_
  refine la_arg (i := i) (j := 4) X h0 h3 hL (by omega) hWd bk_694 ?_
  refine la_bool X dl_699 dl_702 dl_703 dl_706 ?_
  have hop := op_chance (B := B) (σ := σ) (x := (xs (i + 1))) (y := (xs (i + 2))) (z := (xs (i + 3))) (v := (if xs (i + 4) = 0 then 0 else 1)) hB2 hI
  refine la_call (y := 92) (na := 4) (b0 := 0) (as := [.int (xs (i + 1)), .int (xs (i + 2)), .int (xs (i + 3)), .int (if xs (i + 4) = 0 then 0 else 1)]) (rest := []) X hl.1 lw_104 rfl rfl (Nat.le_of_ble_eq_true rfl) hWd (Ev.long hop rfl) (Nat.le_of_ble_eq_true rfl) dl_707 hcl hst (fun r σ1 H locs hQ hWd => ?_)
  obtain ⟨⟨z, rfl⟩, hop⟩ := hQ
  refine lv_aload_n hx hb dl_710 rfl (lv_at hl 2 rfl) ?_
  refine la_arg (i := i) (j := 1) X h0 h3 hL (by omega) hWd bk_711 ?_
  refine la_arg (i := i) (j := 2) X h0 h3 hL (by omega) hWd bk_716 ?_
  refine la_arg (i := i) (j := 3) X h0 h3 hL (by omega) hWd bk_721 ?_
  refine la_arg (i := i) (j := 4) X h0 h3 hL (by omega) hWd bk_726 ?_
  refine la_bool X dl_731 dl_734 dl_735 dl_738 ?_
  refine la_call (y := 144) (na := 4) (b0 := 50) (as := [.int (xs (i + 1)), .int (xs (i + 2)), .int (xs (i + 3)), .int (if xs (i + 4) = 0 then 0 else 1)]) (rest := [.long z]) X hl.1 lw_108 rfl rfl (Nat.le_of_ble_eq_true rfl) hWd hop (Nat.le_of_ble_eq_true rfl) dl_739 hcl hst (fun r σ2 H locs hQ hWd => ?_)
  obtain ⟨⟨v, hv, rfl⟩, hI2⟩ := hQ
  cases hv
  refine W.lcmp hx hb dl_742 ?_
  exact lv_if_eq (tgt := 794) hx hb dl_743 (by decide) (fun _ => kk σ2 H locs hI2 hWd) (fun hne => absurd (la_cmp z) hne)
/-- keep -/
theorem la_o22 {B i : Nat} (X : la_At dC dI cA ad p s m meth c b L xs) (hl : lv_has ls 4 [(0, .ref b), (1, .ref (ad 0)), (2, .ref (ad 50)), (3, .int (nI i))]) (hL : L ≤ 2560) (hi : i + 5 ≤ L) (hB1 : 99 ≤ B) (hB2 : B < 90000) (hI : Inv B σ) (hWd : la_Wd dC dI cA ad s σ H locs) (hcl : cells ≤ room_1.cells) (hst : slots ≤ room_1.slots)
    (kk : ∀ (σ1 : ab_St) (H1 : Heap) (locs1 : List Loc), Inv (B + 9) σ1 → la_Wd dC dI cA ad s σ1 H1 locs1 → W p l e room_1 s m #[Value.ref b] below meth c H1 locs1 cells slots Q (F0 m 794 ls [])) : W p l e room_1 s m #[Value.ref b] below meth c H locs cells slots Q (F0 m 748 ls []) := by
  have hx := X.1
  have hb := X.2.1
  have hown := X.2.2.2.2.1
  have hts := X.2.2.2.2.2.1
  have h0 := lv_at hl 0 rfl
  have h3 := lv_at hl 3 rfl
  refine lv_aload_n hx hb dl_748 rfl (lv_at hl 1 rfl) ?_
  refine la_arg (i := i) (j := 1) X h0 h3 hL (by omega) hWd bk_749 ?_
  have hop := op_keep (B := B) (σ := σ) (x := (xs (i + 1))) hI
  refine la_call (y := 97) (na := 1) (b0 := 0) (as := [.int (xs (i + 1))]) (rest := []) X hl.1 lw_109 rfl rfl (Nat.le_of_ble_eq_true rfl) hWd (Ev.int hop rfl) (Nat.le_of_ble_eq_true rfl) dl_754 hcl hst (fun r σ1 H locs hQ hWd => ?_)
  obtain ⟨⟨z, rfl⟩, hop⟩ := hQ
  refine lv_aload_n hx hb dl_757 rfl (lv_at hl 2 rfl) ?_
  refine la_arg (i := i) (j := 1) X h0 h3 hL (by omega) hWd bk_758 ?_
  refine la_call (y := 147) (na := 1) (b0 := 50) (as := [.int (xs (i + 1))]) (rest := [.int z]) X hl.1 lw_112 rfl rfl (Nat.le_of_ble_eq_true rfl) hWd hop (Nat.le_of_ble_eq_true rfl) dl_763 hcl hst (fun r σ2 H locs hQ hWd => ?_)
  obtain ⟨⟨v, hv, rfl⟩, hI2⟩ := hQ
  cases hv
  exact lv_icmp_eq (tgt := 794) hx hb dl_766 (by decide) (fun _ => kk σ2 H locs hI2 hWd) (fun hne => absurd rfl hne)
/-- again -/
theorem la_o23 {B i : Nat} (X : la_At dC dI cA ad p s m meth c b L xs) (hl : lv_has ls 4 [(0, .ref b), (1, .ref (ad 0)), (2, .ref (ad 50)), (3, .int (nI i))]) (hL : L ≤ 2560) (hi : i + 5 ≤ L) (hB1 : 99 ≤ B) (hB2 : B < 90000) (hI : Inv B σ) (hWd : la_Wd dC dI cA ad s σ H locs) (hcl : cells ≤ room_1.cells) (hst : slots ≤ room_1.slots)
    (kk : ∀ (σ1 : ab_St) (H1 : Heap) (locs1 : List Loc), Inv (B + 9) σ1 → la_Wd dC dI cA ad s σ1 H1 locs1 → W p l e room_1 s m #[Value.ref b] below meth c H1 locs1 cells slots Q (F0 m 794 ls [])) : W p l e room_1 s m #[Value.ref b] below meth c H locs cells slots Q (F0 m 771 ls []) := by
  have hx := X.1
  have hb := X.2.1
  have hown := X.2.2.2.2.1
  have hts := X.2.2.2.2.2.1
  have h0 := lv_at hl 0 rfl
  have h3 := lv_at hl 3 rfl
  refine lv_aload_n hx hb dl_771 rfl (lv_at hl 1 rfl) ?_
  refine la_arg (i := i) (j := 1) X h0 h3 hL (by omega) hWd bk_772 ?_
  have hop := op_again (B := B) (σ := σ) (x := (xs (i + 1))) hI
  refine la_call (y := 98) (na := 1) (b0 := 0) (as := [.int (xs (i + 1))]) (rest := []) X hl.1 lw_113 rfl rfl (Nat.le_of_ble_eq_true rfl) hWd (Ev.int hop rfl) (Nat.le_of_ble_eq_true rfl) dl_777 hcl hst (fun r σ1 H locs hQ hWd => ?_)
  obtain ⟨⟨z, rfl⟩, hop⟩ := hQ
  refine lv_aload_n hx hb dl_780 rfl (lv_at hl 2 rfl) ?_
  refine la_arg (i := i) (j := 1) X h0 h3 hL (by omega) hWd bk_781 ?_
  refine la_call (y := 148) (na := 1) (b0 := 50) (as := [.int (xs (i + 1))]) (rest := [.int z]) X hl.1 lw_116 rfl rfl (Nat.le_of_ble_eq_true rfl) hWd hop (Nat.le_of_ble_eq_true rfl) dl_786 hcl hst (fun r σ2 H locs hQ hWd => ?_)
  obtain ⟨⟨v, hv, rfl⟩, hI2⟩ := hQ
  cases hv
  exact lv_icmp_eq (tgt := 794) hx hb dl_789 (by decide) (fun _ => kk σ2 H locs hI2 hWd) (fun hne => absurd rfl hne)
end LB
