/-! WHAT THE TABLES SAY OF THE SMALL MACHINE'S TABLES, by program -/
def ab_gt : List Cond := lw_tbl.filter goodWord
def ab_ws (M : Nat) : List Cond := .code (ab_N M) (ab_C M) (ab_L M) (ab_R M) :: ab_gt
theorem ab_gt_in {w : Cond} (h : w ∈ lw_tbl) (hg : goodWord w = true) : w ∈ ab_gt := List.mem_filter.mpr ⟨h, hg⟩
theorem ab_gt_good : GoodIn ab_gt ab_gt := fun w hw => ⟨hw, good_of_word (List.mem_filter.mp hw).2⟩
theorem ab_cls_ok : ∀ q ∈ ab_classes, (∀ w ∈ u_ws q.1 q.2.1 q.2.2, w ∈ lw_tbl) ∧ (∀ w ∈ u_ws q.1 q.2.1 q.2.2, goodWord w = true) ∧ (∀ a, a < q.2.2 → ∀ b, b < q.2.2 → a ≠ b → (q.2.1 a).2.1 ≠ (q.2.1 b).2.1) ∧ (∀ k, k < q.2.2 → (parseFieldDescriptor (q.2.1 k).2.2.1).isSome = true) := by decide +kernel
/-- a class' words, and its fields -/
theorem ab_cls {ci : Nat} {C : String} {T : u_T} {N : Nat} (h : ab_classes[ci]? = some (C, T, N)) : (∀ w ∈ u_ws C T N, w ∈ ab_gt) ∧ (∀ a, a < N → ∀ b, b < N → a ≠ b → (T a).2.1 ≠ (T b).2.1) ∧ ∃ ty0 : Nat → FieldType, ∀ k, k < N → parseFieldDescriptor (T k).2.2.1 = some (ty0 k) := by
  obtain ⟨h1, h2, h3, h4⟩ := ab_cls_ok _ (List.mem_of_getElem? h)
  refine ⟨fun w hw => ab_gt_in (h1 w hw) (h2 w hw), h3, fun k => (parseFieldDescriptor (T k).2.2.1).getD .int, fun k hk => ?_⟩
  obtain ⟨t, ht⟩ := Option.isSome_iff_exists.mp (h4 k hk)
  show parseFieldDescriptor (T k).2.2.1 = some ((parseFieldDescriptor (T k).2.2.1).getD .int)
  have ht : parseFieldDescriptor (T k).2.2.1 = some t := ht
  rw [ht]
  rfl
def ab_fl1 (q : Nat × Nat × Nat × Nat) : Bool := match ab_classes[q.2.2.1]? with
  | some c => decide (q.2.2.2 < c.2.2) && decide (Cond.fieldLink (ab_cn q.1) q.2.1 c.1 (c.2.1 q.2.2.2).2.1 (c.2.1 q.2.2.2).2.2.1 ∈ lw_tbl) && decide (q.2.2.1 < 100) && decide (c.2.2 = (ab_fkT.getD q.2.2.1 []).length) && decide ((c.2.1 q.2.2.2).1 = c.1) &&
    (match ab_fk q.2.2.1 q.2.2.2 with
      | 0 => decide ((c.2.1 q.2.2.2).2.2.1 = "I") && decide ((c.2.1 q.2.2.2).2.2.2 = false)
      | 1 => decide ((c.2.1 q.2.2.2).2.2.1 = "J") && decide ((c.2.1 q.2.2.2).2.2.2 = false)
      | _ => true)
  | none => false
theorem ab_fl_ok : ab_flT.all ab_fl1 = true := by decide +kernel
theorem ab_ci_ok : ab_ciT.all (fun q => decide (Cond.constant (ab_cn q.1) q.2.1 q.2.2 ∈ lw_tbl)) = true := by decide +kernel
theorem ab_cl_ok : ab_clT.all (fun q => decide (Cond.constantLong (ab_cn q.1) q.2.1 q.2.2 ∈ lw_tbl)) = true := by decide +kernel
theorem ab_find {α : Type} {L : List α} {p : α → Bool} {x : α} (h : L.find? p = some x) : x ∈ L ∧ p x = true := ⟨List.mem_of_find?_eq_some h, List.find?_some h⟩
theorem ab_ci_in {own idx : Nat} {v : Int32} (h : ab_ci own idx = some v) : Cond.constant (ab_cn own) idx v ∈ ab_gt := by
  unfold ab_ci at h
  obtain ⟨q, hq, rfl⟩ := Option.map_eq_some_iff.mp h
  obtain ⟨h1, h2⟩ := ab_find hq
  simp only [Bool.and_eq_true, beq_iff_eq] at h2
  have h3 := List.all_eq_true.mp ab_ci_ok q h1
  rw [← h2.1, ← h2.2]
  exact ab_gt_in (of_decide_eq_true h3) rfl
theorem ab_cl_in {own idx : Nat} {v : Int64} (h : ab_cl own idx = some v) : Cond.constantLong (ab_cn own) idx v ∈ ab_gt := by
  unfold ab_cl at h
  obtain ⟨q, hq, rfl⟩ := Option.map_eq_some_iff.mp h
  obtain ⟨h1, h2⟩ := ab_find hq
  simp only [Bool.and_eq_true, beq_iff_eq] at h2
  have h3 := List.all_eq_true.mp ab_cl_ok q h1
  rw [← h2.1, ← h2.2]
  exact ab_gt_in (of_decide_eq_true h3) rfl
def ab_nF (ci : Nat) : Nat := (ab_fkT.getD ci []).length
theorem ab_fl_in {own idx : Nat} {q : Nat × Nat} (h : ab_fl own idx = some q) : ∃ C T, ab_classes[q.1]? = some (C, T, ab_nF q.1) ∧ q.2 < ab_nF q.1 ∧ q.1 < 100 ∧ Cond.fieldLink (ab_cn own) idx C (T q.2).2.1 (T q.2).2.2.1 ∈ ab_gt ∧ (T q.2).1 = C ∧ (ab_fk q.1 q.2 = 0 → (T q.2).2.2.1 = "I" ∧ (T q.2).2.2.2 = false) ∧ (ab_fk q.1 q.2 = 1 → (T q.2).2.2.1 = "J" ∧ (T q.2).2.2.2 = false) := by
  unfold ab_fl at h
  obtain ⟨r, hr, rfl⟩ := Option.map_eq_some_iff.mp h
  obtain ⟨h1, h2⟩ := ab_find hr
  simp only [Bool.and_eq_true, beq_iff_eq] at h2
  have h3 := List.all_eq_true.mp ab_fl_ok r h1
  obtain ⟨o, x, ci, k⟩ := r
  simp only at h2
  obtain ⟨rfl, rfl⟩ := h2
  unfold ab_fl1 at h3
  simp only at h3
  cases hc : ab_classes[ci]? with
  | none => rw [hc] at h3; cases h3
  | some c =>
    rw [hc] at h3
    obtain ⟨C, T, N⟩ := c
    simp only [Bool.and_eq_true, decide_eq_true_eq] at h3
    obtain ⟨⟨⟨⟨⟨h4, h5⟩, h6⟩, h7⟩, h8⟩, h9⟩ := h3
    have h7 : N = ab_nF ci := h7
    subst h7
    refine ⟨C, T, rfl, h4, h6, ab_gt_in h5 rfl, h8, fun e => ?_, fun e => ?_⟩
    · simp only [e, Bool.and_eq_true, decide_eq_true_eq] at h9
      exact h9
    · simp only [e, Bool.and_eq_true, decide_eq_true_eq] at h9
      exact h9
/-- of each method: its class' name, its words -/
theorem ab_mt_ok : ab_mt.all (fun q => ((q.1.cls == "java/lang/Object") || (q.1.cls == "java/lang/Math")) || (decide (ab_cn q.2.2.2.2 = q.1.cls) && decide (q.2.2.1 ≤ 13) && decide (q.1.cls ≠ "java/lang/invoke/MethodHandle" ∧ q.1.cls ≠ "java/lang/invoke/VarHandle") && plainName q.1.cls)) = true := by decide +kernel
theorem ab_mt_1 : ∀ M : Nat, M < 149 → M ≠ 1 → (((ab_N M).cls == "java/lang/Object") || ((ab_N M).cls == "java/lang/Math")) = true → M = 56 ∨ M = 90 := by decide +kernel
set_option maxRecDepth 100000 in
theorem ab_mt_code : ab_mt.map (fun q => Cond.code q.1 q.2.1 q.2.2.1 q.2.2.2.1) = lw_tbl.filter k2_isCode := by rfl
theorem ab_code_in {M : Nat} (h : M < 149) : Cond.code (ab_N M) (ab_C M) (ab_L M) (ab_R M) ∈ ab_gt := by
  have h0 : M < ab_mt.length := h
  have h1 : ab_mt[M]? = some (ab_m M) := by
    unfold ab_m
    rw [List.getD_eq_getElem?_getD, List.getElem?_eq_getElem h0]
    rfl
  have h2 : Cond.code (ab_N M) (ab_C M) (ab_L M) (ab_R M) ∈ ab_mt.map (fun q => Cond.code q.1 q.2.1 q.2.2.1 q.2.2.2.1) := List.mem_map.mpr ⟨ab_m M, List.mem_of_getElem? h1, rfl⟩
  rw [ab_mt_code] at h2
  exact ab_gt_in (List.mem_filter.mp h2).1 rfl
theorem ab_m_in {M : Nat} (h : M < 149) (hne : M ≠ 1 ∧ M ≠ 56 ∧ M ≠ 90) : ab_cn (ab_O M) = (ab_N M).cls ∧ ab_L M ≤ 13 ∧ ((ab_N M).cls ≠ "java/lang/invoke/MethodHandle" ∧ (ab_N M).cls ≠ "java/lang/invoke/VarHandle") ∧ plainName (ab_N M).cls = true := by
  have h0 : M < ab_mt.length := h
  have h1 : ab_mt[M]? = some (ab_m M) := by
    unfold ab_m
    rw [List.getD_eq_getElem?_getD, List.getElem?_eq_getElem h0]
    rfl
  have h2 := List.all_eq_true.mp ab_mt_ok _ (List.mem_of_getElem? h1)
  have h4 : (((ab_m M).1.cls == "java/lang/Object") || ((ab_m M).1.cls == "java/lang/Math")) = false := by
    cases hc : (((ab_m M).1.cls == "java/lang/Object") || ((ab_m M).1.cls == "java/lang/Math")) with
    | false => rfl
    | true => rcases ab_mt_1 M h hne.1 hc with q | q
              · exact absurd q hne.2.1
              · exact absurd q hne.2.2
  rw [h4, Bool.false_or] at h2
  simp only [Bool.and_eq_true, decide_eq_true_eq] at h2
  exact ⟨h2.1.1.1, h2.1.1.2, h2.1.2, h2.2⟩
/-- of each call: the words, by their places in the tables -/
def ab_ml1 (r : (Nat × Nat × Nat × Nat × Nat) × Nat × Nat × Nat × Nat) : Bool := decide (r.1.2.2.1 < 149 ∧ r.1.2.2.1 ≠ 1 ∧ r.1.2.2.1 ≠ 56 ∧ r.1.2.2.1 ≠ 90) && decide ((parseMethodDescriptor (ab_N r.1.2.2.1).desc).map (fun d => d.parameters.length) = some r.1.2.2.2.1) && decide (lw_tbl[r.2.1]? = some (Cond.initialized (ab_N r.1.2.2.1).cls)) &&
  (match r.1.2.2.2.2 with
    | 0 => decide (lw_tbl[r.2.2.1]? = some (Cond.methodLink (ab_cn r.1.1) r.1.2.1 (ab_N r.1.2.2.1))) && decide (lw_tbl[r.2.2.2.1]? = some (Cond.static (ab_N r.1.2.2.1)))
    | 1 => decide (lw_tbl[r.2.2.1]? = some (Cond.methodLink (ab_cn r.1.1) r.1.2.1 (ab_N r.1.2.2.1))) && decide (lw_tbl[r.2.2.2.1]? = some (Cond.instanceMethod (ab_N r.1.2.2.1))) && decide (lw_tbl[r.2.2.2.2]? = some (Cond.selects (ab_N r.1.2.2.1).cls (ab_N r.1.2.2.1) (ab_N r.1.2.2.1))) && decide ((ab_classes[ab_O r.1.2.2.1]?).map (fun c => (c.1, c.2.2)) = some ((ab_N r.1.2.2.1).cls, ab_nF (ab_O r.1.2.2.1))) && decide (ab_O r.1.2.2.1 < 100)
    | _ => decide (Cond.methodLinkNest (ab_cn r.1.1) r.1.2.1 (ab_N r.1.2.2.1) "SaidLeast" ∈ ab_nest) && decide (lw_tbl[r.2.2.2.1]? = some (Cond.static (ab_N r.1.2.2.1))))
def ab_mlP0 : List ((Nat × Nat × Nat × Nat × Nat) × Nat × Nat × Nat × Nat) := [((0, 76, 12, 2, 1), 52, 356, 357, 358), ((0, 80, 15, 1, 1), 53, 368, 369, 370), ((0, 85, 34, 1, 1), 54, 442, 443, 444), ((0, 92, 35, 1, 1), 55, 449, 450, 451), ((0, 95, 36, 0, 1), 56, 454, 455, 456), ((0, 113, 38, 0, 1), 55, 462, 463, 464), ((0, 120, 39, 1, 1), 54, 467, 468, 469), ((0, 127, 40, 0, 1), 55, 472, 473, 474), ((0, 133, 26, 1, 1), 54, 480, 412, 413), ((0, 141, 32, 2, 0), 51, 481, 436, 0), ((0, 145, 42, 1, 1), 54, 482, 483, 484), ((0, 148, 31, 1, 1), 54, 490, 432, 433), ((0, 161, 46, 2, 1), 55, 499, 500, 501), ((0, 165, 48, 2, 1), 56, 508, 509, 510), ((0, 169, 49, 2, 1), 55, 512, 513, 514), ((0, 173, 52, 0, 1), 55, 524, 525, 526), ((0, 176, 53, 0, 1), 55, 550, 529, 530), ((0, 179, 59, 1, 1), 56, 555, 556, 557), ((0, 185, 62, 3, 1), 57, 569, 570, 571), ((0, 189, 71, 4, 1), 57, 609, 610, 611), ((0, 193, 76, 3, 1), 57, 629, 630, 631), ((0, 196, 78, 1, 1), 55, 637, 638, 639), ((0, 199, 80, 2, 1), 59, 645, 646, 647), ((0, 205, 86, 3, 1), 60, 675, 676, 677), ((0, 211, 93, 4, 1), 60, 703, 704, 705), ((7, 16, 35, 1, 1), 55, 589, 450, 451), ((7, 29, 32, 2, 2), 51, 0, 436, 0), ((7, 43, 38, 0, 1), 55, 591, 463, 464)]
theorem ab_mlP0_ok : ∀ q ∈ ab_mlP0, ab_ml1 q = true := by decide +kernel
def ab_mlP1 : List ((Nat × Nat × Nat × Nat × Nat) × Nat × Nat × Nat × Nat) := [((8, 25, 81, 2, 1), 59, 649, 651, 21), ((8, 40, 83, 2, 1), 59, 660, 662, 23), ((8, 44, 17, 2, 0), 62, 653, 377, 0), ((8, 50, 66, 3, 1), 58, 654, 586, 587), ((8, 54, 82, 2, 1), 59, 655, 657, 22), ((8, 58, 32, 2, 2), 51, 0, 436, 0), ((8, 65, 84, 4, 1), 59, 664, 666, 24), ((8, 69, 42, 1, 1), 54, 668, 483, 484), ((8, 73, 39, 1, 1), 54, 669, 468, 469), ((9, 30, 87, 1, 2), 51, 0, 680, 0), ((9, 38, 88, 4, 1), 60, 682, 684, 25), ((9, 42, 89, 2, 0), 62, 686, 687, 0), ((9, 48, 32, 2, 2), 51, 0, 436, 0), ((9, 61, 91, 3, 1), 60, 694, 696, 26), ((9, 68, 94, 4, 1), 60, 707, 709, 27), ((9, 72, 95, 3, 0), 60, 713, 714, 0), ((9, 79, 96, 1, 1), 60, 717, 719, 28), ((9, 83, 35, 1, 1), 55, 711, 450, 451), ((9, 87, 38, 0, 1), 55, 712, 463, 464), ((6, 34, 63, 2, 1), 57, 573, 575, 14), ((6, 38, 69, 3, 1), 57, 600, 602, 17), ((6, 42, 72, 4, 1), 57, 613, 615, 18), ((6, 55, 74, 3, 1), 57, 621, 623, 20), ((6, 64, 32, 2, 2), 51, 0, 436, 0), ((6, 68, 17, 2, 0), 62, 577, 377, 0), ((6, 74, 64, 1, 0), 57, 578, 579, 0), ((6, 78, 65, 3, 1), 57, 581, 583, 15), ((6, 81, 68, 2, 1), 57, 596, 598, 16)]
theorem ab_mlP1_ok : ∀ q ∈ ab_mlP1, ab_ml1 q = true := by decide +kernel
def ab_mlP2 : List ((Nat × Nat × Nat × Nat × Nat) × Nat × Nat × Nat × Nat) := [((6, 85, 66, 3, 1), 58, 585, 586, 587), ((6, 97, 67, 3, 0), 57, 593, 594, 0), ((6, 113, 73, 2, 1), 57, 617, 619, 19), ((2, 25, 16, 0, 1), 53, 372, 374, 0), ((2, 38, 18, 1, 1), 53, 379, 381, 1), ((2, 55, 17, 2, 0), 62, 376, 377, 0), ((2, 70, 19, 1, 1), 53, 383, 385, 2), ((2, 73, 20, 1, 1), 53, 387, 389, 3), ((2, 76, 21, 0, 1), 53, 391, 393, 4), ((2, 80, 22, 1, 1), 53, 395, 397, 5), ((2, 83, 23, 1, 1), 53, 399, 401, 6), ((2, 86, 24, 1, 1), 53, 403, 405, 7), ((2, 89, 25, 1, 1), 53, 407, 409, 8), ((2, 92, 27, 1, 1), 53, 415, 417, 9), ((2, 95, 28, 1, 1), 53, 419, 421, 10), ((2, 98, 29, 1, 1), 53, 423, 425, 11), ((2, 101, 30, 1, 1), 53, 427, 429, 12), ((2, 104, 26, 1, 1), 54, 411, 412, 413), ((2, 114, 31, 1, 1), 54, 431, 432, 433), ((2, 117, 32, 2, 2), 51, 0, 436, 0), ((4, 34, 54, 1, 0), 64, 532, 533, 0), ((4, 40, 32, 2, 2), 51, 0, 436, 0), ((4, 50, 53, 0, 1), 55, 528, 529, 530), ((4, 54, 40, 0, 1), 55, 538, 473, 474), ((4, 57, 55, 0, 1), 55, 539, 541, 13), ((4, 68, 38, 0, 1), 55, 503, 463, 464), ((3, 37, 32, 2, 2), 51, 0, 436, 0), ((10, 85, 101, 3, 0), 61, 858, 859, 0)]
theorem ab_mlP2_ok : ∀ q ∈ ab_mlP2, ab_ml1 q = true := by decide +kernel
def ab_mlP3 : List ((Nat × Nat × Nat × Nat × Nat) × Nat × Nat × Nat × Nat) := [((10, 100, 105, 2, 1), 61, 873, 875, 30), ((10, 113, 109, 1, 1), 61, 889, 891, 34), ((10, 117, 107, 1, 1), 61, 881, 883, 32), ((10, 121, 108, 0, 1), 61, 885, 887, 33), ((10, 128, 106, 0, 1), 61, 877, 879, 31), ((10, 131, 104, 0, 1), 61, 869, 871, 29), ((10, 154, 113, 2, 0), 61, 905, 906, 0), ((10, 158, 112, 0, 1), 61, 901, 903, 35), ((10, 161, 114, 0, 1), 61, 908, 910, 36), ((10, 164, 115, 2, 1), 61, 913, 915, 37), ((10, 167, 117, 1, 1), 61, 921, 923, 38), ((10, 170, 119, 1, 1), 61, 929, 931, 39), ((10, 175, 122, 1, 1), 61, 942, 944, 40), ((10, 178, 125, 2, 1), 61, 954, 956, 42), ((10, 182, 124, 0, 1), 61, 950, 952, 41), ((10, 187, 129, 1, 0), 61, 971, 972, 0), ((10, 191, 131, 2, 1), 61, 978, 980, 43), ((10, 194, 133, 1, 1), 61, 986, 988, 44), ((10, 201, 136, 1, 1), 61, 999, 1001, 46), ((10, 206, 135, 2, 1), 61, 995, 997, 45), ((10, 209, 141, 1, 1), 61, 1019, 1021, 47), ((10, 216, 143, 3, 1), 61, 1029, 1031, 48), ((10, 226, 145, 1, 1), 61, 1040, 1042, 49), ((10, 229, 146, 2, 0), 61, 1044, 1045, 0)]
theorem ab_mlP3_ok : ∀ q ∈ ab_mlP3, ab_ml1 q = true := by decide +kernel
theorem ab_mlT_eq : ab_mlT = (ab_mlP0 ++ (ab_mlP1 ++ (ab_mlP2 ++ (ab_mlP3)))).map (fun r => r.1) := by rfl
theorem ab_ml_ok : ∀ q ∈ ab_mlP0 ++ (ab_mlP1 ++ (ab_mlP2 ++ (ab_mlP3))), ab_ml1 q = true := List.forall_mem_append.mpr ⟨ab_mlP0_ok, List.forall_mem_append.mpr ⟨ab_mlP1_ok, List.forall_mem_append.mpr ⟨ab_mlP2_ok, ab_mlP3_ok⟩⟩⟩
theorem ab_tbl_in {i : Nat} {w : Cond} (h : lw_tbl[i]? = some w) (hg : goodWord w = true) : w ∈ ab_gt := ab_gt_in (List.mem_of_getElem? h) hg
/-- what holds of a call -/
def ab_mlQ (own idx y na kd : Nat) : Prop := y < 149 ∧ (y ≠ 1 ∧ y ≠ 56 ∧ y ≠ 90) ∧ (parseMethodDescriptor (ab_N y).desc).map (fun d => d.parameters.length) = some na ∧ Cond.initialized (ab_N y).cls ∈ ab_gt ∧
  (kd = 0 → Cond.methodLink (ab_cn own) idx (ab_N y) ∈ ab_gt ∧ Cond.static (ab_N y) ∈ ab_gt) ∧
  (kd = 1 → Cond.methodLink (ab_cn own) idx (ab_N y) ∈ ab_gt ∧ Cond.instanceMethod (ab_N y) ∈ ab_gt ∧ Cond.selects (ab_N y).cls (ab_N y) (ab_N y) ∈ ab_gt ∧ (∃ T, ab_classes[ab_O y]? = some ((ab_N y).cls, T, ab_nF (ab_O y))) ∧ ab_O y < 100) ∧
  (kd = 2 → Cond.methodLinkNest (ab_cn own) idx (ab_N y) "SaidLeast" ∈ ab_nest ∧ Cond.static (ab_N y) ∈ ab_gt)
theorem ab_ml_in {own idx : Nat} {q : Nat × Nat × Nat} (h : ab_ml own idx = some q) : ab_mlQ own idx q.1 q.2.1 q.2.2 := by
  unfold ab_ml at h
  obtain ⟨r, hr, rfl⟩ := Option.map_eq_some_iff.mp h
  obtain ⟨h1, h2⟩ := ab_find hr
  simp only [Bool.and_eq_true, beq_iff_eq] at h2
  rw [ab_mlT_eq] at h1
  obtain ⟨⟨⟨o, x, y, na, kd⟩, p1, p2, p3, p4⟩, h3, rfl⟩ := List.mem_map.mp h1
  have h4 := ab_ml_ok _ h3
  simp only at h2
  obtain ⟨rfl, rfl⟩ := h2
  unfold ab_ml1 at h4
  simp only [Bool.and_eq_true, decide_eq_true_eq] at h4
  obtain ⟨⟨⟨⟨a1, a2⟩, a3⟩, a4⟩, a5⟩ := h4
  refine ⟨a1, a2, a3, ab_tbl_in a4 rfl, fun e => ?_, fun e => ?_, fun e => ?_⟩
  · simp only at e
    subst e
    simp only [Bool.and_eq_true, decide_eq_true_eq] at a5
    exact ⟨ab_tbl_in a5.1 rfl, ab_tbl_in a5.2 rfl⟩
  · simp only at e
    subst e
    simp only [Bool.and_eq_true, decide_eq_true_eq] at a5
    obtain ⟨⟨⟨⟨b1, b2⟩, b3⟩, b4⟩, b5⟩ := a5
    refine ⟨ab_tbl_in b1 rfl, ab_tbl_in b2 rfl, ab_tbl_in b3 rfl, ?_, b5⟩
    obtain ⟨c, hc, he⟩ := Option.map_eq_some_iff.mp b4
    obtain ⟨C, T, N⟩ := c
    simp only [Prod.mk.injEq] at he
    obtain ⟨rfl, rfl⟩ := he
    exact ⟨T, hc⟩
  · simp only at e
    subst e
    simp only [Bool.and_eq_true, decide_eq_true_eq] at a5
    exact ⟨a5.1, ab_tbl_in a5.2 rfl⟩
theorem ab_ac_ok : ab_acT.all (fun q => decide (Cond.methodLink (ab_cn q.1) q.2 arraycopyName ∈ lw_tbl)) = true := by decide +kernel
theorem ab_ac_in {own idx : Nat} (h : ab_ac own idx = true) : Cond.methodLink (ab_cn own) idx arraycopyName ∈ ab_gt := by
  unfold ab_ac at h
  obtain ⟨q, h1, h2⟩ := List.any_eq_true.mp h
  simp only [Bool.and_eq_true, beq_iff_eq] at h2
  have h3 := List.all_eq_true.mp ab_ac_ok q h1
  rw [← h2.1, ← h2.2]
  exact ab_gt_in (of_decide_eq_true h3) rfl
theorem ab_ac_n : Cond.native arraycopyName ∈ ab_gt := ab_gt_in (by decide +kernel) rfl
theorem ab_ac_s : Cond.static arraycopyName ∈ ab_gt := ab_gt_in (by decide +kernel) rfl
theorem ab_ac_i : Cond.initialized "java/lang/System" ∈ ab_gt := ab_gt_in (by decide +kernel) rfl
theorem ab_gs_ok : ab_gsT.all (fun q => match q.2.2 with
  | 0 => decide (Cond.fieldLink (ab_cn q.1) q.2.1 "SaidLeast" "POWERS_OF_TEN" "[I" ∈ lw_tbl)
  | _ => decide (Cond.fieldLinkNest (ab_cn q.1) q.2.1 "SaidLeast" "POWERS_OF_TEN" "[I" "SaidLeast" ∈ ab_nest)) = true := by decide +kernel
theorem ab_mm_ok : ab_mmT.all (fun q => match q.2.2 with
  | 0 => decide (Cond.methodLink (ab_cn q.1) q.2.1 Lib.Math.max.name ∈ lw_tbl)
  | _ => decide (Cond.methodLink (ab_cn q.1) q.2.1 Lib.Math.min.name ∈ lw_tbl)) = true := by decide +kernel
theorem ab_mm_in {own idx k : Nat} (h : ab_mm own idx = some k) : (k = 0 ∧ Cond.methodLink (ab_cn own) idx Lib.Math.max.name ∈ ab_gt) ∨ (k ≠ 0 ∧ Cond.methodLink (ab_cn own) idx Lib.Math.min.name ∈ ab_gt) := by
  unfold ab_mm at h
  obtain ⟨q, hq, rfl⟩ := Option.map_eq_some_iff.mp h
  obtain ⟨h1, h2⟩ := ab_find hq
  simp only [Bool.and_eq_true, beq_iff_eq] at h2
  have h3 := List.all_eq_true.mp ab_mm_ok q h1
  obtain ⟨o, x, k⟩ := q
  simp only at h2 h3 ⊢
  obtain ⟨rfl, rfl⟩ := h2
  cases k with
  | zero => exact Or.inl ⟨rfl, ab_gt_in (of_decide_eq_true h3) rfl⟩
  | succ k => exact Or.inr ⟨Nat.succ_ne_zero k, ab_gt_in (of_decide_eq_true h3) rfl⟩
theorem ab_mm_w : (Cond.static Lib.Math.max.name ∈ ab_gt ∧ Cond.static Lib.Math.min.name ∈ ab_gt ∧ Cond.initialized "java/lang/Math" ∈ ab_gt) := ⟨ab_gt_in (by decide +kernel) rfl, ab_gt_in (by decide +kernel) rfl, ab_gt_in (by decide +kernel) rfl⟩
theorem ab_mm_c : Cond.code Lib.Math.max.name Lib.Math.max.code 2 (some .int) ∈ ab_gt ∧ Cond.code Lib.Math.min.name Lib.Math.min.code 2 (some .int) ∈ ab_gt := by
  have h1 := ab_code_in (M := 56) (by decide)
  have h2 := ab_code_in (M := 90) (by decide)
  exact ⟨h1, h2⟩
theorem ab_nest_in : ∀ w ∈ ab_nest, w ∈ lw_tbl := by decide +kernel
theorem ab_gs_in {own idx k : Nat} (h : ab_gs own idx = some k) : (k = 0 ∧ Cond.fieldLink (ab_cn own) idx "SaidLeast" "POWERS_OF_TEN" "[I" ∈ ab_gt) ∨ Cond.fieldLinkNest (ab_cn own) idx "SaidLeast" "POWERS_OF_TEN" "[I" "SaidLeast" ∈ ab_nest := by
  unfold ab_gs at h
  obtain ⟨q, hq, rfl⟩ := Option.map_eq_some_iff.mp h
  obtain ⟨h1, h2⟩ := ab_find hq
  simp only [Bool.and_eq_true, beq_iff_eq] at h2
  have h3 := List.all_eq_true.mp ab_gs_ok q h1
  obtain ⟨o, x, k⟩ := q
  simp only at h2 h3 ⊢
  obtain ⟨rfl, rfl⟩ := h2
  split at h3
  · exact Or.inl ⟨rfl, ab_gt_in (of_decide_eq_true h3) rfl⟩
  · exact Or.inr (of_decide_eq_true h3)
