/-! SaidLeastModel.isAnswered(I)Z -/
theorem d109_0 : decode (ab_C 109) 0 = .ok (.iconst 0, 1) := by decide +kernel
theorem e109_0 {d : Nat} {l0 l1 l2 l3 : Option Value} {σ : ab_St} {Q : Option Value → ab_St → Prop} : Ev d 109 0 [l0, l1, l2, l3] [] σ Q = Ev d 109 1 [l0, l1, l2, l3] [.int 0] σ Q := ev_A1 d109_0 rfl
theorem d109_1 : decode (ab_C 109) 1 = .ok (.istore_n 2, 1) := by decide +kernel
theorem e109_1 {d : Nat} {l0 l1 l2 l3 : Option Value} {s0 : Int32} {σ : ab_St} {Q : Option Value → ab_St → Prop} : Ev d 109 1 [l0, l1, l2, l3] [.int s0] σ Q = Ev d 109 2 [l0, l1, some (.int s0), l3] [] σ Q := ev_S d109_1 rfl rfl rfl rfl
theorem d109_2 : decode (ab_C 109) 2 = .ok (.iconst 0, 1) := by decide +kernel
theorem e109_2 {d : Nat} {l0 l1 l2 l3 : Option Value} {σ : ab_St} {Q : Option Value → ab_St → Prop} : Ev d 109 2 [l0, l1, l2, l3] [] σ Q = Ev d 109 3 [l0, l1, l2, l3] [.int 0] σ Q := ev_A1 d109_2 rfl
theorem d109_3 : decode (ab_C 109) 3 = .ok (.istore_n 3, 1) := by decide +kernel
theorem e109_3 {d : Nat} {l0 l1 l2 l3 : Option Value} {s0 : Int32} {σ : ab_St} {Q : Option Value → ab_St → Prop} : Ev d 109 3 [l0, l1, l2, l3] [.int s0] σ Q = Ev d 109 4 [l0, l1, l2, some (.int s0)] [] σ Q := ev_S d109_3 rfl rfl rfl rfl
theorem d109_4 : decode (ab_C 109) 4 = .ok (.iload_n 3, 1) := by decide +kernel
theorem e109_4 {d : Nat} {l0 l1 l2 : Option Value} {x : Int32} {σ : ab_St} {Q : Option Value → ab_St → Prop} : Ev d 109 4 [l0, l1, l2, some (.int x)] [] σ Q = Ev d 109 5 [l0, l1, l2, some (.int x)] [.int x] σ Q := ev_A1 d109_4 rfl
theorem d109_5 : decode (ab_C 109) 5 = .ok (.aload_n 0, 1) := by decide +kernel
theorem e109_5 {d : Nat} {l1 l2 l3 : Option Value} {x : Nat} {s0 : Int32} {σ : ab_St} {Q : Option Value → ab_St → Prop} : Ev d 109 5 [some (.ref x), l1, l2, l3] [.int s0] σ Q = Ev d 109 6 [some (.ref x), l1, l2, l3] [.ref x, .int s0] σ Q := ev_A1 d109_5 rfl
theorem d109_6 : decode (ab_C 109) 6 = .ok (.getfield 110, 3) := by decide +kernel
theorem e109_6 {d : Nat} {l0 l1 l2 l3 : Option Value} {s0 : Nat} {s1 : Int32} {σ : ab_St} {Q : Option Value → ab_St → Prop} : Ev d 109 6 [l0, l1, l2, l3] [.ref s0, .int s1] σ Q = (ab_k s0 = 10 ∧ Ev d 109 9 [l0, l1, l2, l3] [.int (σ.1 s0 19), .int s1] σ Q) := ev_Hc (c := ab_k s0 = 10) d109_6 rfl rfl rfl rfl rfl rfl rfl rfl
theorem d109_9 : decode (ab_C 109) 9 = .ok (.if_icmp .ge 29, 3) := by decide +kernel
theorem e109_9 {d : Nat} {l0 l1 l2 l3 : Option Value} {s0 : Int32} {s1 : Int32} {σ : ab_St} {Q : Option Value → ab_St → Prop} : Ev d 109 9 [l0, l1, l2, l3] [.int s0, .int s1] σ Q = if s0 ≤ s1 then Ev d 109 38 [l0, l1, l2, l3] [] σ Q else Ev d 109 12 [l0, l1, l2, l3] [] σ Q := ev_B (c := s0 ≤ s1) d109_9 rfl rfl rfl rfl rfl
theorem d109_12 : decode (ab_C 109) 12 = .ok (.iload_n 2, 1) := by decide +kernel
theorem e109_12 {d : Nat} {l0 l1 l3 : Option Value} {x : Int32} {σ : ab_St} {Q : Option Value → ab_St → Prop} : Ev d 109 12 [l0, l1, some (.int x), l3] [] σ Q = Ev d 109 13 [l0, l1, some (.int x), l3] [.int x] σ Q := ev_A1 d109_12 rfl
theorem d109_13 : decode (ab_C 109) 13 = .ok (.ifCond .ne 13, 3) := by decide +kernel
theorem e109_13 {d : Nat} {l0 l1 l2 l3 : Option Value} {s0 : Int32} {σ : ab_St} {Q : Option Value → ab_St → Prop} : Ev d 109 13 [l0, l1, l2, l3] [.int s0] σ Q = if s0 = 0 then Ev d 109 16 [l0, l1, l2, l3] [] σ Q else Ev d 109 26 [l0, l1, l2, l3] [] σ Q := ev_B (c := s0 = 0) d109_13 rfl rfl rfl rfl rfl
theorem d109_16 : decode (ab_C 109) 16 = .ok (.aload_n 0, 1) := by decide +kernel
theorem e109_16 {d : Nat} {l1 l2 l3 : Option Value} {x : Nat} {σ : ab_St} {Q : Option Value → ab_St → Prop} : Ev d 109 16 [some (.ref x), l1, l2, l3] [] σ Q = Ev d 109 17 [some (.ref x), l1, l2, l3] [.ref x] σ Q := ev_A1 d109_16 rfl
theorem d109_17 : decode (ab_C 109) 17 = .ok (.getfield 44, 3) := by decide +kernel
theorem e109_17 {d : Nat} {l0 l1 l2 l3 : Option Value} {s0 : Nat} {σ : ab_St} {Q : Option Value → ab_St → Prop} : Ev d 109 17 [l0, l1, l2, l3] [.ref s0] σ Q = (ab_k s0 = 10 ∧ Ev d 109 20 [l0, l1, l2, l3] [.ref (ab_r s0 23)] σ Q) := ev_Hc (c := ab_k s0 = 10) d109_17 rfl rfl rfl rfl rfl rfl rfl rfl
theorem d109_20 : decode (ab_C 109) 20 = .ok (.iload_n 3, 1) := by decide +kernel
theorem e109_20 {d : Nat} {l0 l1 l2 : Option Value} {x : Int32} {s0 : Nat} {σ : ab_St} {Q : Option Value → ab_St → Prop} : Ev d 109 20 [l0, l1, l2, some (.int x)] [.ref s0] σ Q = Ev d 109 21 [l0, l1, l2, some (.int x)] [.int x, .ref s0] σ Q := ev_A1 d109_20 rfl
theorem d109_21 : decode (ab_C 109) 21 = .ok (.iaload, 1) := by decide +kernel
theorem e109_21 {d : Nat} {l0 l1 l2 l3 : Option Value} {s0 : Int32} {s1 : Nat} {σ : ab_St} {Q : Option Value → ab_St → Prop} : Ev d 109 21 [l0, l1, l2, l3] [.int s0, .ref s1] σ Q = ((ab_k s1 = 100 ∧ ab_in s0 (ab_n s1)) ∧ Ev d 109 22 [l0, l1, l2, l3] [.int (σ.1 s1 s0.toNatClampNeg)] σ Q) := ev_Hc (c := ab_k s1 = 100 ∧ ab_in s0 (ab_n s1)) d109_21 rfl rfl rfl rfl rfl rfl rfl rfl
theorem d109_22 : decode (ab_C 109) 22 = .ok (.iload_n 1, 1) := by decide +kernel
theorem e109_22 {d : Nat} {l0 l2 l3 : Option Value} {x : Int32} {s0 : Int32} {σ : ab_St} {Q : Option Value → ab_St → Prop} : Ev d 109 22 [l0, some (.int x), l2, l3] [.int s0] σ Q = Ev d 109 23 [l0, some (.int x), l2, l3] [.int x, .int s0] σ Q := ev_A1 d109_22 rfl
theorem d109_23 : decode (ab_C 109) 23 = .ok (.if_icmp .ne 7, 3) := by decide +kernel
theorem e109_23 {d : Nat} {l0 l1 l2 l3 : Option Value} {s0 : Int32} {s1 : Int32} {σ : ab_St} {Q : Option Value → ab_St → Prop} : Ev d 109 23 [l0, l1, l2, l3] [.int s0, .int s1] σ Q = if s1 = s0 then Ev d 109 26 [l0, l1, l2, l3] [] σ Q else Ev d 109 30 [l0, l1, l2, l3] [] σ Q := ev_B (c := s1 = s0) d109_23 rfl rfl rfl rfl rfl
theorem d109_26 : decode (ab_C 109) 26 = .ok (.iconst 1, 1) := by decide +kernel
theorem e109_26 {d : Nat} {l0 l1 l2 l3 : Option Value} {σ : ab_St} {Q : Option Value → ab_St → Prop} : Ev d 109 26 [l0, l1, l2, l3] [] σ Q = Ev d 109 27 [l0, l1, l2, l3] [.int 1] σ Q := ev_A1 d109_26 rfl
theorem d109_27 : decode (ab_C 109) 27 = .ok (.goto 4, 3) := by decide +kernel
theorem e109_27 {d : Nat} {l0 l1 l2 l3 : Option Value} {s0 : Int32} {σ : ab_St} {Q : Option Value → ab_St → Prop} : Ev d 109 27 [l0, l1, l2, l3] [.int s0] σ Q = Ev d 109 31 [l0, l1, l2, l3] [.int s0] σ Q := ev_J d109_27 rfl rfl rfl rfl rfl
theorem d109_30 : decode (ab_C 109) 30 = .ok (.iconst 0, 1) := by decide +kernel
theorem e109_30 {d : Nat} {l0 l1 l2 l3 : Option Value} {σ : ab_St} {Q : Option Value → ab_St → Prop} : Ev d 109 30 [l0, l1, l2, l3] [] σ Q = Ev d 109 31 [l0, l1, l2, l3] [.int 0] σ Q := ev_A1 d109_30 rfl
theorem d109_31 : decode (ab_C 109) 31 = .ok (.istore_n 2, 1) := by decide +kernel
theorem e109_31 {d : Nat} {l0 l1 l2 l3 : Option Value} {s0 : Int32} {σ : ab_St} {Q : Option Value → ab_St → Prop} : Ev d 109 31 [l0, l1, l2, l3] [.int s0] σ Q = Ev d 109 32 [l0, l1, some (.int s0), l3] [] σ Q := ev_S d109_31 rfl rfl rfl rfl
theorem d109_32 : decode (ab_C 109) 32 = .ok (.iinc 3 1, 3) := by decide +kernel
theorem e109_32 {d : Nat} {l0 l1 l2 : Option Value} {x : Int32} {σ : ab_St} {Q : Option Value → ab_St → Prop} : Ev d 109 32 [l0, l1, l2, some (.int x)] [] σ Q = Ev d 109 35 [l0, l1, l2, some (.int (x + 1))] [] σ Q := ev_S d109_32 rfl rfl rfl rfl
theorem d109_35 : decode (ab_C 109) 35 = .ok (.goto (-31), 3) := by decide +kernel
theorem e109_35 {d : Nat} {l0 l1 l2 l3 : Option Value} {σ : ab_St} {Q : Option Value → ab_St → Prop} : Ev d 109 35 [l0, l1, l2, l3] [] σ Q = Ev d 109 4 [l0, l1, l2, l3] [] σ Q := ev_J d109_35 rfl rfl rfl rfl rfl
theorem d109_38 : decode (ab_C 109) 38 = .ok (.iload_n 2, 1) := by decide +kernel
theorem e109_38 {d : Nat} {l0 l1 l3 : Option Value} {x : Int32} {σ : ab_St} {Q : Option Value → ab_St → Prop} : Ev d 109 38 [l0, l1, some (.int x), l3] [] σ Q = Ev d 109 39 [l0, l1, some (.int x), l3] [.int x] σ Q := ev_A1 d109_38 rfl
theorem d109_39 : decode (ab_C 109) 39 = .ok (.ireturn, 1) := by decide +kernel
theorem e109_39 {d : Nat} {l0 l1 l2 l3 : Option Value} {s0 : Int32} {σ : ab_St} {Q : Option Value → ab_St → Prop} : Ev d 109 39 [l0, l1, l2, l3] [.int s0] σ Q = ((s0 = 0 ∨ s0 = 1) ∧ Q (some (.int s0)) σ) := ev_Z d109_39 rfl
/-! SaidLeastModel.parlour()I -/
theorem d110_0 : decode (ab_C 110) 0 = .ok (.aload_n 0, 1) := by decide +kernel
theorem e110_0 {d : Nat} {l1 : Option Value} {x : Nat} {σ : ab_St} {Q : Option Value → ab_St → Prop} : Ev d 110 0 [some (.ref x), l1] [] σ Q = Ev d 110 1 [some (.ref x), l1] [.ref x] σ Q := ev_A1 d110_0 rfl
theorem d110_1 : decode (ab_C 110) 1 = .ok (.iconst 0, 1) := by decide +kernel
theorem e110_1 {d : Nat} {l0 l1 : Option Value} {s0 : Nat} {σ : ab_St} {Q : Option Value → ab_St → Prop} : Ev d 110 1 [l0, l1] [.ref s0] σ Q = Ev d 110 2 [l0, l1] [.int 0, .ref s0] σ Q := ev_A1 d110_1 rfl
theorem d110_2 : decode (ab_C 110) 2 = .ok (.putfield 79, 3) := by decide +kernel
theorem e110_2 {d : Nat} {l0 l1 : Option Value} {s0 : Int32} {s1 : Nat} {σ : ab_St} {Q : Option Value → ab_St → Prop} : Ev d 110 2 [l0, l1] [.int s0, .ref s1] σ Q = (ab_k s1 = 10 ∧ Ev d 110 5 [l0, l1] [] (ab_wI σ s1 (upd (σ.1 s1) 0 s0)) Q) := ev_Hc (c := ab_k s1 = 10) d110_2 rfl rfl rfl rfl rfl rfl rfl rfl
theorem d110_5 : decode (ab_C 110) 5 = .ok (.aload_n 0, 1) := by decide +kernel
theorem e110_5 {d : Nat} {l1 : Option Value} {x : Nat} {σ : ab_St} {Q : Option Value → ab_St → Prop} : Ev d 110 5 [some (.ref x), l1] [] σ Q = Ev d 110 6 [some (.ref x), l1] [.ref x] σ Q := ev_A1 d110_5 rfl
theorem d110_6 : decode (ab_C 110) 6 = .ok (.invokevirtual 131, 3) := by decide +kernel
theorem e110_6 {d : Nat} {l0 l1 : Option Value} {s0 : Nat} {σ : ab_St} {Q : Option Value → ab_St → Prop} : Ev (d + 1) 110 6 [l0, l1] [.ref s0] σ Q = (ab_k s0 = 10 ∧ Ev d 104 0 [some (.ref s0)] [] σ (fun r σ2 => Ev (d + 1) 110 9 [l0, l1] (r.toList ++ []) σ2 Q)) := ev_KV (b := s0) (ls := [l0, l1]) (st := [.ref s0]) (as := []) (rest := []) d110_6 rfl rfl rfl (Nat.le_of_ble_eq_true rfl) (Nat.le_of_ble_eq_true rfl) (Nat.le_of_ble_eq_true rfl) rfl rfl rfl rfl rfl rfl rfl
theorem d110_9 : decode (ab_C 110) 9 = .ok (.bipush (-9), 2) := by decide +kernel
theorem e110_9 {d : Nat} {l0 l1 : Option Value} {s0 : Int32} {σ : ab_St} {Q : Option Value → ab_St → Prop} : Ev d 110 9 [l0, l1] [.int s0] σ Q = Ev d 110 11 [l0, l1] [.int (-9), .int s0] σ Q := ev_A1 d110_9 rfl
theorem d110_11 : decode (ab_C 110) 11 = .ok (.if_icmp .eq 6, 3) := by decide +kernel
theorem e110_11 {d : Nat} {l0 l1 : Option Value} {s0 : Int32} {s1 : Int32} {σ : ab_St} {Q : Option Value → ab_St → Prop} : Ev d 110 11 [l0, l1] [.int s0, .int s1] σ Q = if s1 = s0 then Ev d 110 17 [l0, l1] [] σ Q else Ev d 110 14 [l0, l1] [] σ Q := ev_B (c := s1 = s0) d110_11 rfl rfl rfl rfl rfl
theorem d110_14 : decode (ab_C 110) 14 = .ok (.bipush (-3), 2) := by decide +kernel
theorem e110_14 {d : Nat} {l0 l1 : Option Value} {σ : ab_St} {Q : Option Value → ab_St → Prop} : Ev d 110 14 [l0, l1] [] σ Q = Ev d 110 16 [l0, l1] [.int (-3)] σ Q := ev_A1 d110_14 rfl
theorem d110_16 : decode (ab_C 110) 16 = .ok (.ireturn, 1) := by decide +kernel
theorem e110_16 {d : Nat} {l0 l1 : Option Value} {s0 : Int32} {σ : ab_St} {Q : Option Value → ab_St → Prop} : Ev d 110 16 [l0, l1] [.int s0] σ Q = Q (some (.int s0)) σ := ev_E d110_16 rfl rfl rfl rfl rfl rfl rfl
theorem d110_17 : decode (ab_C 110) 17 = .ok (.aload_n 0, 1) := by decide +kernel
theorem e110_17 {d : Nat} {l1 : Option Value} {x : Nat} {σ : ab_St} {Q : Option Value → ab_St → Prop} : Ev d 110 17 [some (.ref x), l1] [] σ Q = Ev d 110 18 [some (.ref x), l1] [.ref x] σ Q := ev_A1 d110_17 rfl
theorem d110_18 : decode (ab_C 110) 18 = .ok (.aload_n 0, 1) := by decide +kernel
theorem e110_18 {d : Nat} {l1 : Option Value} {x : Nat} {s0 : Nat} {σ : ab_St} {Q : Option Value → ab_St → Prop} : Ev d 110 18 [some (.ref x), l1] [.ref s0] σ Q = Ev d 110 19 [some (.ref x), l1] [.ref x, .ref s0] σ Q := ev_A1 d110_18 rfl
theorem d110_19 : decode (ab_C 110) 19 = .ok (.getfield 125, 3) := by decide +kernel
theorem e110_19 {d : Nat} {l0 l1 : Option Value} {s0 : Nat} {s1 : Nat} {σ : ab_St} {Q : Option Value → ab_St → Prop} : Ev d 110 19 [l0, l1] [.ref s0, .ref s1] σ Q = (ab_k s0 = 10 ∧ Ev d 110 22 [l0, l1] [.int (σ.1 s0 15), .ref s1] σ Q) := ev_Hc (c := ab_k s0 = 10) d110_19 rfl rfl rfl rfl rfl rfl rfl rfl
theorem d110_22 : decode (ab_C 110) 22 = .ok (.putfield 135, 3) := by decide +kernel
theorem e110_22 {d : Nat} {l0 l1 : Option Value} {s0 : Int32} {s1 : Nat} {σ : ab_St} {Q : Option Value → ab_St → Prop} : Ev d 110 22 [l0, l1] [.int s0, .ref s1] σ Q = (ab_k s1 = 10 ∧ Ev d 110 25 [l0, l1] [] (ab_wI σ s1 (upd (σ.1 s1) 4 s0)) Q) := ev_Hc (c := ab_k s1 = 10) d110_22 rfl rfl rfl rfl rfl rfl rfl rfl
theorem d110_25 : decode (ab_C 110) 25 = .ok (.aload_n 0, 1) := by decide +kernel
theorem e110_25 {d : Nat} {l1 : Option Value} {x : Nat} {σ : ab_St} {Q : Option Value → ab_St → Prop} : Ev d 110 25 [some (.ref x), l1] [] σ Q = Ev d 110 26 [some (.ref x), l1] [.ref x] σ Q := ev_A1 d110_25 rfl
theorem d110_26 : decode (ab_C 110) 26 = .ok (.aload_n 0, 1) := by decide +kernel
theorem e110_26 {d : Nat} {l1 : Option Value} {x : Nat} {s0 : Nat} {σ : ab_St} {Q : Option Value → ab_St → Prop} : Ev d 110 26 [some (.ref x), l1] [.ref s0] σ Q = Ev d 110 27 [some (.ref x), l1] [.ref x, .ref s0] σ Q := ev_A1 d110_26 rfl
theorem d110_27 : decode (ab_C 110) 27 = .ok (.getfield 104, 3) := by decide +kernel
theorem e110_27 {d : Nat} {l0 l1 : Option Value} {s0 : Nat} {s1 : Nat} {σ : ab_St} {Q : Option Value → ab_St → Prop} : Ev d 110 27 [l0, l1] [.ref s0, .ref s1] σ Q = (ab_k s0 = 10 ∧ Ev d 110 30 [l0, l1] [.int (σ.1 s0 16), .ref s1] σ Q) := ev_Hc (c := ab_k s0 = 10) d110_27 rfl rfl rfl rfl rfl rfl rfl rfl
theorem d110_30 : decode (ab_C 110) 30 = .ok (.putfield 82, 3) := by decide +kernel
theorem e110_30 {d : Nat} {l0 l1 : Option Value} {s0 : Int32} {s1 : Nat} {σ : ab_St} {Q : Option Value → ab_St → Prop} : Ev d 110 30 [l0, l1] [.int s0, .ref s1] σ Q = (ab_k s1 = 10 ∧ Ev d 110 33 [l0, l1] [] (ab_wI σ s1 (upd (σ.1 s1) 5 s0)) Q) := ev_Hc (c := ab_k s1 = 10) d110_30 rfl rfl rfl rfl rfl rfl rfl rfl
theorem d110_33 : decode (ab_C 110) 33 = .ok (.aload_n 0, 1) := by decide +kernel
theorem e110_33 {d : Nat} {l1 : Option Value} {x : Nat} {σ : ab_St} {Q : Option Value → ab_St → Prop} : Ev d 110 33 [some (.ref x), l1] [] σ Q = Ev d 110 34 [some (.ref x), l1] [.ref x] σ Q := ev_A1 d110_33 rfl
theorem d110_34 : decode (ab_C 110) 34 = .ok (.aload_n 0, 1) := by decide +kernel
theorem e110_34 {d : Nat} {l1 : Option Value} {x : Nat} {s0 : Nat} {σ : ab_St} {Q : Option Value → ab_St → Prop} : Ev d 110 34 [some (.ref x), l1] [.ref s0] σ Q = Ev d 110 35 [some (.ref x), l1] [.ref x, .ref s0] σ Q := ev_A1 d110_34 rfl
theorem d110_35 : decode (ab_C 110) 35 = .ok (.getfield 107, 3) := by decide +kernel
theorem e110_35 {d : Nat} {l0 l1 : Option Value} {s0 : Nat} {s1 : Nat} {σ : ab_St} {Q : Option Value → ab_St → Prop} : Ev d 110 35 [l0, l1] [.ref s0, .ref s1] σ Q = (ab_k s0 = 10 ∧ Ev d 110 38 [l0, l1] [.int (σ.1 s0 18), .ref s1] σ Q) := ev_Hc (c := ab_k s0 = 10) d110_35 rfl rfl rfl rfl rfl rfl rfl rfl
theorem d110_38 : decode (ab_C 110) 38 = .ok (.putfield 138, 3) := by decide +kernel
theorem e110_38 {d : Nat} {l0 l1 : Option Value} {s0 : Int32} {s1 : Nat} {σ : ab_St} {Q : Option Value → ab_St → Prop} : Ev d 110 38 [l0, l1] [.int s0, .ref s1] σ Q = (ab_k s1 = 10 ∧ Ev d 110 41 [l0, l1] [] (ab_wI σ s1 (upd (σ.1 s1) 7 s0)) Q) := ev_Hc (c := ab_k s1 = 10) d110_38 rfl rfl rfl rfl rfl rfl rfl rfl
theorem d110_41 : decode (ab_C 110) 41 = .ok (.aload_n 0, 1) := by decide +kernel
theorem e110_41 {d : Nat} {l1 : Option Value} {x : Nat} {σ : ab_St} {Q : Option Value → ab_St → Prop} : Ev d 110 41 [some (.ref x), l1] [] σ Q = Ev d 110 42 [some (.ref x), l1] [.ref x] σ Q := ev_A1 d110_41 rfl
theorem d110_42 : decode (ab_C 110) 42 = .ok (.aload_n 0, 1) := by decide +kernel
theorem e110_42 {d : Nat} {l1 : Option Value} {x : Nat} {s0 : Nat} {σ : ab_St} {Q : Option Value → ab_St → Prop} : Ev d 110 42 [some (.ref x), l1] [.ref s0] σ Q = Ev d 110 43 [some (.ref x), l1] [.ref x, .ref s0] σ Q := ev_A1 d110_42 rfl
theorem d110_43 : decode (ab_C 110) 43 = .ok (.getfield 110, 3) := by decide +kernel
theorem e110_43 {d : Nat} {l0 l1 : Option Value} {s0 : Nat} {s1 : Nat} {σ : ab_St} {Q : Option Value → ab_St → Prop} : Ev d 110 43 [l0, l1] [.ref s0, .ref s1] σ Q = (ab_k s0 = 10 ∧ Ev d 110 46 [l0, l1] [.int (σ.1 s0 19), .ref s1] σ Q) := ev_Hc (c := ab_k s0 = 10) d110_43 rfl rfl rfl rfl rfl rfl rfl rfl
theorem d110_46 : decode (ab_C 110) 46 = .ok (.putfield 89, 3) := by decide +kernel
theorem e110_46 {d : Nat} {l0 l1 : Option Value} {s0 : Int32} {s1 : Nat} {σ : ab_St} {Q : Option Value → ab_St → Prop} : Ev d 110 46 [l0, l1] [.int s0, .ref s1] σ Q = (ab_k s1 = 10 ∧ Ev d 110 49 [l0, l1] [] (ab_wI σ s1 (upd (σ.1 s1) 8 s0)) Q) := ev_Hc (c := ab_k s1 = 10) d110_46 rfl rfl rfl rfl rfl rfl rfl rfl
theorem d110_49 : decode (ab_C 110) 49 = .ok (.iconst 0, 1) := by decide +kernel
theorem e110_49 {d : Nat} {l0 l1 : Option Value} {σ : ab_St} {Q : Option Value → ab_St → Prop} : Ev d 110 49 [l0, l1] [] σ Q = Ev d 110 50 [l0, l1] [.int 0] σ Q := ev_A1 d110_49 rfl
theorem d110_50 : decode (ab_C 110) 50 = .ok (.istore_n 1, 1) := by decide +kernel
theorem e110_50 {d : Nat} {l0 l1 : Option Value} {s0 : Int32} {σ : ab_St} {Q : Option Value → ab_St → Prop} : Ev d 110 50 [l0, l1] [.int s0] σ Q = Ev d 110 51 [l0, some (.int s0)] [] σ Q := ev_S d110_50 rfl rfl rfl rfl
theorem d110_51 : decode (ab_C 110) 51 = .ok (.iload_n 1, 1) := by decide +kernel
theorem e110_51 {d : Nat} {l0 : Option Value} {x : Int32} {σ : ab_St} {Q : Option Value → ab_St → Prop} : Ev d 110 51 [l0, some (.int x)] [] σ Q = Ev d 110 52 [l0, some (.int x)] [.int x] σ Q := ev_A1 d110_51 rfl
theorem d110_52 : decode (ab_C 110) 52 = .ok (.aload_n 0, 1) := by decide +kernel
theorem e110_52 {d : Nat} {l1 : Option Value} {x : Nat} {s0 : Int32} {σ : ab_St} {Q : Option Value → ab_St → Prop} : Ev d 110 52 [some (.ref x), l1] [.int s0] σ Q = Ev d 110 53 [some (.ref x), l1] [.ref x, .int s0] σ Q := ev_A1 d110_52 rfl
theorem d110_53 : decode (ab_C 110) 53 = .ok (.getfield 82, 3) := by decide +kernel
theorem e110_53 {d : Nat} {l0 l1 : Option Value} {s0 : Nat} {s1 : Int32} {σ : ab_St} {Q : Option Value → ab_St → Prop} : Ev d 110 53 [l0, l1] [.ref s0, .int s1] σ Q = (ab_k s0 = 10 ∧ Ev d 110 56 [l0, l1] [.int (σ.1 s0 5), .int s1] σ Q) := ev_Hc (c := ab_k s0 = 10) d110_53 rfl rfl rfl rfl rfl rfl rfl rfl
theorem d110_56 : decode (ab_C 110) 56 = .ok (.if_icmp .ge 21, 3) := by decide +kernel
theorem e110_56 {d : Nat} {l0 l1 : Option Value} {s0 : Int32} {s1 : Int32} {σ : ab_St} {Q : Option Value → ab_St → Prop} : Ev d 110 56 [l0, l1] [.int s0, .int s1] σ Q = if s0 ≤ s1 then Ev d 110 77 [l0, l1] [] σ Q else Ev d 110 59 [l0, l1] [] σ Q := ev_B (c := s0 ≤ s1) d110_56 rfl rfl rfl rfl rfl
theorem d110_59 : decode (ab_C 110) 59 = .ok (.aload_n 0, 1) := by decide +kernel
theorem e110_59 {d : Nat} {l1 : Option Value} {x : Nat} {σ : ab_St} {Q : Option Value → ab_St → Prop} : Ev d 110 59 [some (.ref x), l1] [] σ Q = Ev d 110 60 [some (.ref x), l1] [.ref x] σ Q := ev_A1 d110_59 rfl
theorem d110_60 : decode (ab_C 110) 60 = .ok (.getfield 13, 3) := by decide +kernel
theorem e110_60 {d : Nat} {l0 l1 : Option Value} {s0 : Nat} {σ : ab_St} {Q : Option Value → ab_St → Prop} : Ev d 110 60 [l0, l1] [.ref s0] σ Q = (ab_k s0 = 10 ∧ Ev d 110 63 [l0, l1] [.ref (ab_r s0 6)] σ Q) := ev_Hc (c := ab_k s0 = 10) d110_60 rfl rfl rfl rfl rfl rfl rfl rfl
theorem d110_63 : decode (ab_C 110) 63 = .ok (.iload_n 1, 1) := by decide +kernel
theorem e110_63 {d : Nat} {l0 : Option Value} {x : Int32} {s0 : Nat} {σ : ab_St} {Q : Option Value → ab_St → Prop} : Ev d 110 63 [l0, some (.int x)] [.ref s0] σ Q = Ev d 110 64 [l0, some (.int x)] [.int x, .ref s0] σ Q := ev_A1 d110_63 rfl
theorem d110_64 : decode (ab_C 110) 64 = .ok (.aload_n 0, 1) := by decide +kernel
theorem e110_64 {d : Nat} {l1 : Option Value} {x : Nat} {s0 : Int32} {s1 : Nat} {σ : ab_St} {Q : Option Value → ab_St → Prop} : Ev d 110 64 [some (.ref x), l1] [.int s0, .ref s1] σ Q = Ev d 110 65 [some (.ref x), l1] [.ref x, .int s0, .ref s1] σ Q := ev_A1 d110_64 rfl
theorem d110_65 : decode (ab_C 110) 65 = .ok (.getfield 32, 3) := by decide +kernel
theorem e110_65 {d : Nat} {l0 l1 : Option Value} {s0 : Nat} {s1 : Int32} {s2 : Nat} {σ : ab_St} {Q : Option Value → ab_St → Prop} : Ev d 110 65 [l0, l1] [.ref s0, .int s1, .ref s2] σ Q = (ab_k s0 = 10 ∧ Ev d 110 68 [l0, l1] [.ref (ab_r s0 17), .int s1, .ref s2] σ Q) := ev_Hc (c := ab_k s0 = 10) d110_65 rfl rfl rfl rfl rfl rfl rfl rfl
theorem d110_68 : decode (ab_C 110) 68 = .ok (.iload_n 1, 1) := by decide +kernel
theorem e110_68 {d : Nat} {l0 : Option Value} {x : Int32} {s0 : Nat} {s1 : Int32} {s2 : Nat} {σ : ab_St} {Q : Option Value → ab_St → Prop} : Ev d 110 68 [l0, some (.int x)] [.ref s0, .int s1, .ref s2] σ Q = Ev d 110 69 [l0, some (.int x)] [.int x, .ref s0, .int s1, .ref s2] σ Q := ev_A1 d110_68 rfl
theorem d110_69 : decode (ab_C 110) 69 = .ok (.iaload, 1) := by decide +kernel
theorem e110_69 {d : Nat} {l0 l1 : Option Value} {s0 : Int32} {s1 : Nat} {s2 : Int32} {s3 : Nat} {σ : ab_St} {Q : Option Value → ab_St → Prop} : Ev d 110 69 [l0, l1] [.int s0, .ref s1, .int s2, .ref s3] σ Q = ((ab_k s1 = 100 ∧ ab_in s0 (ab_n s1)) ∧ Ev d 110 70 [l0, l1] [.int (σ.1 s1 s0.toNatClampNeg), .int s2, .ref s3] σ Q) := ev_Hc (c := ab_k s1 = 100 ∧ ab_in s0 (ab_n s1)) d110_69 rfl rfl rfl rfl rfl rfl rfl rfl
theorem d110_70 : decode (ab_C 110) 70 = .ok (.iastore, 1) := by decide +kernel
theorem e110_70 {d : Nat} {l0 l1 : Option Value} {s0 : Int32} {s1 : Int32} {s2 : Nat} {σ : ab_St} {Q : Option Value → ab_St → Prop} : Ev d 110 70 [l0, l1] [.int s0, .int s1, .ref s2] σ Q = ((ab_k s2 = 100 ∧ ab_in s1 (ab_n s2)) ∧ Ev d 110 71 [l0, l1] [] (ab_wI σ s2 (upd (σ.1 s2) s1.toNatClampNeg s0)) Q) := ev_Hc (c := ab_k s2 = 100 ∧ ab_in s1 (ab_n s2)) d110_70 rfl rfl rfl rfl rfl rfl rfl rfl
theorem d110_71 : decode (ab_C 110) 71 = .ok (.iinc 1 1, 3) := by decide +kernel
theorem e110_71 {d : Nat} {l0 : Option Value} {x : Int32} {σ : ab_St} {Q : Option Value → ab_St → Prop} : Ev d 110 71 [l0, some (.int x)] [] σ Q = Ev d 110 74 [l0, some (.int (x + 1))] [] σ Q := ev_S d110_71 rfl rfl rfl rfl
theorem d110_74 : decode (ab_C 110) 74 = .ok (.goto (-23), 3) := by decide +kernel
theorem e110_74 {d : Nat} {l0 l1 : Option Value} {σ : ab_St} {Q : Option Value → ab_St → Prop} : Ev d 110 74 [l0, l1] [] σ Q = Ev d 110 51 [l0, l1] [] σ Q := ev_J d110_74 rfl rfl rfl rfl rfl
theorem d110_77 : decode (ab_C 110) 77 = .ok (.iconst 0, 1) := by decide +kernel
theorem e110_77 {d : Nat} {l0 l1 : Option Value} {σ : ab_St} {Q : Option Value → ab_St → Prop} : Ev d 110 77 [l0, l1] [] σ Q = Ev d 110 78 [l0, l1] [.int 0] σ Q := ev_A1 d110_77 rfl
theorem d110_78 : decode (ab_C 110) 78 = .ok (.istore_n 1, 1) := by decide +kernel
theorem e110_78 {d : Nat} {l0 l1 : Option Value} {s0 : Int32} {σ : ab_St} {Q : Option Value → ab_St → Prop} : Ev d 110 78 [l0, l1] [.int s0] σ Q = Ev d 110 79 [l0, some (.int s0)] [] σ Q := ev_S d110_78 rfl rfl rfl rfl
theorem d110_79 : decode (ab_C 110) 79 = .ok (.iload_n 1, 1) := by decide +kernel
theorem e110_79 {d : Nat} {l0 : Option Value} {x : Int32} {σ : ab_St} {Q : Option Value → ab_St → Prop} : Ev d 110 79 [l0, some (.int x)] [] σ Q = Ev d 110 80 [l0, some (.int x)] [.int x] σ Q := ev_A1 d110_79 rfl
theorem d110_80 : decode (ab_C 110) 80 = .ok (.aload_n 0, 1) := by decide +kernel
theorem e110_80 {d : Nat} {l1 : Option Value} {x : Nat} {s0 : Int32} {σ : ab_St} {Q : Option Value → ab_St → Prop} : Ev d 110 80 [some (.ref x), l1] [.int s0] σ Q = Ev d 110 81 [some (.ref x), l1] [.ref x, .int s0] σ Q := ev_A1 d110_80 rfl
theorem d110_81 : decode (ab_C 110) 81 = .ok (.getfield 89, 3) := by decide +kernel
theorem e110_81 {d : Nat} {l0 l1 : Option Value} {s0 : Nat} {s1 : Int32} {σ : ab_St} {Q : Option Value → ab_St → Prop} : Ev d 110 81 [l0, l1] [.ref s0, .int s1] σ Q = (ab_k s0 = 10 ∧ Ev d 110 84 [l0, l1] [.int (σ.1 s0 8), .int s1] σ Q) := ev_Hc (c := ab_k s0 = 10) d110_81 rfl rfl rfl rfl rfl rfl rfl rfl
theorem d110_84 : decode (ab_C 110) 84 = .ok (.if_icmp .ge 57, 3) := by decide +kernel
theorem e110_84 {d : Nat} {l0 l1 : Option Value} {s0 : Int32} {s1 : Int32} {σ : ab_St} {Q : Option Value → ab_St → Prop} : Ev d 110 84 [l0, l1] [.int s0, .int s1] σ Q = if s0 ≤ s1 then Ev d 110 141 [l0, l1] [] σ Q else Ev d 110 87 [l0, l1] [] σ Q := ev_B (c := s0 ≤ s1) d110_84 rfl rfl rfl rfl rfl
theorem d110_87 : decode (ab_C 110) 87 = .ok (.aload_n 0, 1) := by decide +kernel
theorem e110_87 {d : Nat} {l1 : Option Value} {x : Nat} {σ : ab_St} {Q : Option Value → ab_St → Prop} : Ev d 110 87 [some (.ref x), l1] [] σ Q = Ev d 110 88 [some (.ref x), l1] [.ref x] σ Q := ev_A1 d110_87 rfl
theorem d110_88 : decode (ab_C 110) 88 = .ok (.getfield 16, 3) := by decide +kernel
theorem e110_88 {d : Nat} {l0 l1 : Option Value} {s0 : Nat} {σ : ab_St} {Q : Option Value → ab_St → Prop} : Ev d 110 88 [l0, l1] [.ref s0] σ Q = (ab_k s0 = 10 ∧ Ev d 110 91 [l0, l1] [.ref (ab_r s0 9)] σ Q) := ev_Hc (c := ab_k s0 = 10) d110_88 rfl rfl rfl rfl rfl rfl rfl rfl
theorem d110_91 : decode (ab_C 110) 91 = .ok (.iload_n 1, 1) := by decide +kernel
theorem e110_91 {d : Nat} {l0 : Option Value} {x : Int32} {s0 : Nat} {σ : ab_St} {Q : Option Value → ab_St → Prop} : Ev d 110 91 [l0, some (.int x)] [.ref s0] σ Q = Ev d 110 92 [l0, some (.int x)] [.int x, .ref s0] σ Q := ev_A1 d110_91 rfl
theorem d110_92 : decode (ab_C 110) 92 = .ok (.aload_n 0, 1) := by decide +kernel
theorem e110_92 {d : Nat} {l1 : Option Value} {x : Nat} {s0 : Int32} {s1 : Nat} {σ : ab_St} {Q : Option Value → ab_St → Prop} : Ev d 110 92 [some (.ref x), l1] [.int s0, .ref s1] σ Q = Ev d 110 93 [some (.ref x), l1] [.ref x, .int s0, .ref s1] σ Q := ev_A1 d110_92 rfl
theorem d110_93 : decode (ab_C 110) 93 = .ok (.getfield 35, 3) := by decide +kernel
theorem e110_93 {d : Nat} {l0 l1 : Option Value} {s0 : Nat} {s1 : Int32} {s2 : Nat} {σ : ab_St} {Q : Option Value → ab_St → Prop} : Ev d 110 93 [l0, l1] [.ref s0, .int s1, .ref s2] σ Q = (ab_k s0 = 10 ∧ Ev d 110 96 [l0, l1] [.ref (ab_r s0 20), .int s1, .ref s2] σ Q) := ev_Hc (c := ab_k s0 = 10) d110_93 rfl rfl rfl rfl rfl rfl rfl rfl
theorem d110_96 : decode (ab_C 110) 96 = .ok (.iload_n 1, 1) := by decide +kernel
theorem e110_96 {d : Nat} {l0 : Option Value} {x : Int32} {s0 : Nat} {s1 : Int32} {s2 : Nat} {σ : ab_St} {Q : Option Value → ab_St → Prop} : Ev d 110 96 [l0, some (.int x)] [.ref s0, .int s1, .ref s2] σ Q = Ev d 110 97 [l0, some (.int x)] [.int x, .ref s0, .int s1, .ref s2] σ Q := ev_A1 d110_96 rfl
theorem d110_97 : decode (ab_C 110) 97 = .ok (.iaload, 1) := by decide +kernel
theorem e110_97 {d : Nat} {l0 l1 : Option Value} {s0 : Int32} {s1 : Nat} {s2 : Int32} {s3 : Nat} {σ : ab_St} {Q : Option Value → ab_St → Prop} : Ev d 110 97 [l0, l1] [.int s0, .ref s1, .int s2, .ref s3] σ Q = ((ab_k s1 = 100 ∧ ab_in s0 (ab_n s1)) ∧ Ev d 110 98 [l0, l1] [.int (σ.1 s1 s0.toNatClampNeg), .int s2, .ref s3] σ Q) := ev_Hc (c := ab_k s1 = 100 ∧ ab_in s0 (ab_n s1)) d110_97 rfl rfl rfl rfl rfl rfl rfl rfl
theorem d110_98 : decode (ab_C 110) 98 = .ok (.iastore, 1) := by decide +kernel
theorem e110_98 {d : Nat} {l0 l1 : Option Value} {s0 : Int32} {s1 : Int32} {s2 : Nat} {σ : ab_St} {Q : Option Value → ab_St → Prop} : Ev d 110 98 [l0, l1] [.int s0, .int s1, .ref s2] σ Q = ((ab_k s2 = 100 ∧ ab_in s1 (ab_n s2)) ∧ Ev d 110 99 [l0, l1] [] (ab_wI σ s2 (upd (σ.1 s2) s1.toNatClampNeg s0)) Q) := ev_Hc (c := ab_k s2 = 100 ∧ ab_in s1 (ab_n s2)) d110_98 rfl rfl rfl rfl rfl rfl rfl rfl
theorem d110_99 : decode (ab_C 110) 99 = .ok (.aload_n 0, 1) := by decide +kernel
theorem e110_99 {d : Nat} {l1 : Option Value} {x : Nat} {σ : ab_St} {Q : Option Value → ab_St → Prop} : Ev d 110 99 [some (.ref x), l1] [] σ Q = Ev d 110 100 [some (.ref x), l1] [.ref x] σ Q := ev_A1 d110_99 rfl
theorem d110_100 : decode (ab_C 110) 100 = .ok (.getfield 19, 3) := by decide +kernel
theorem e110_100 {d : Nat} {l0 l1 : Option Value} {s0 : Nat} {σ : ab_St} {Q : Option Value → ab_St → Prop} : Ev d 110 100 [l0, l1] [.ref s0] σ Q = (ab_k s0 = 10 ∧ Ev d 110 103 [l0, l1] [.ref (ab_r s0 10)] σ Q) := ev_Hc (c := ab_k s0 = 10) d110_100 rfl rfl rfl rfl rfl rfl rfl rfl
theorem d110_103 : decode (ab_C 110) 103 = .ok (.iload_n 1, 1) := by decide +kernel
theorem e110_103 {d : Nat} {l0 : Option Value} {x : Int32} {s0 : Nat} {σ : ab_St} {Q : Option Value → ab_St → Prop} : Ev d 110 103 [l0, some (.int x)] [.ref s0] σ Q = Ev d 110 104 [l0, some (.int x)] [.int x, .ref s0] σ Q := ev_A1 d110_103 rfl
theorem d110_104 : decode (ab_C 110) 104 = .ok (.aload_n 0, 1) := by decide +kernel
theorem e110_104 {d : Nat} {l1 : Option Value} {x : Nat} {s0 : Int32} {s1 : Nat} {σ : ab_St} {Q : Option Value → ab_St → Prop} : Ev d 110 104 [some (.ref x), l1] [.int s0, .ref s1] σ Q = Ev d 110 105 [some (.ref x), l1] [.ref x, .int s0, .ref s1] σ Q := ev_A1 d110_104 rfl
theorem d110_105 : decode (ab_C 110) 105 = .ok (.getfield 38, 3) := by decide +kernel
theorem e110_105 {d : Nat} {l0 l1 : Option Value} {s0 : Nat} {s1 : Int32} {s2 : Nat} {σ : ab_St} {Q : Option Value → ab_St → Prop} : Ev d 110 105 [l0, l1] [.ref s0, .int s1, .ref s2] σ Q = (ab_k s0 = 10 ∧ Ev d 110 108 [l0, l1] [.ref (ab_r s0 21), .int s1, .ref s2] σ Q) := ev_Hc (c := ab_k s0 = 10) d110_105 rfl rfl rfl rfl rfl rfl rfl rfl
theorem d110_108 : decode (ab_C 110) 108 = .ok (.iload_n 1, 1) := by decide +kernel
theorem e110_108 {d : Nat} {l0 : Option Value} {x : Int32} {s0 : Nat} {s1 : Int32} {s2 : Nat} {σ : ab_St} {Q : Option Value → ab_St → Prop} : Ev d 110 108 [l0, some (.int x)] [.ref s0, .int s1, .ref s2] σ Q = Ev d 110 109 [l0, some (.int x)] [.int x, .ref s0, .int s1, .ref s2] σ Q := ev_A1 d110_108 rfl
theorem d110_109 : decode (ab_C 110) 109 = .ok (.iaload, 1) := by decide +kernel
theorem e110_109 {d : Nat} {l0 l1 : Option Value} {s0 : Int32} {s1 : Nat} {s2 : Int32} {s3 : Nat} {σ : ab_St} {Q : Option Value → ab_St → Prop} : Ev d 110 109 [l0, l1] [.int s0, .ref s1, .int s2, .ref s3] σ Q = ((ab_k s1 = 100 ∧ ab_in s0 (ab_n s1)) ∧ Ev d 110 110 [l0, l1] [.int (σ.1 s1 s0.toNatClampNeg), .int s2, .ref s3] σ Q) := ev_Hc (c := ab_k s1 = 100 ∧ ab_in s0 (ab_n s1)) d110_109 rfl rfl rfl rfl rfl rfl rfl rfl
theorem d110_110 : decode (ab_C 110) 110 = .ok (.iastore, 1) := by decide +kernel
theorem e110_110 {d : Nat} {l0 l1 : Option Value} {s0 : Int32} {s1 : Int32} {s2 : Nat} {σ : ab_St} {Q : Option Value → ab_St → Prop} : Ev d 110 110 [l0, l1] [.int s0, .int s1, .ref s2] σ Q = ((ab_k s2 = 100 ∧ ab_in s1 (ab_n s2)) ∧ Ev d 110 111 [l0, l1] [] (ab_wI σ s2 (upd (σ.1 s2) s1.toNatClampNeg s0)) Q) := ev_Hc (c := ab_k s2 = 100 ∧ ab_in s1 (ab_n s2)) d110_110 rfl rfl rfl rfl rfl rfl rfl rfl
theorem d110_111 : decode (ab_C 110) 111 = .ok (.aload_n 0, 1) := by decide +kernel
theorem e110_111 {d : Nat} {l1 : Option Value} {x : Nat} {σ : ab_St} {Q : Option Value → ab_St → Prop} : Ev d 110 111 [some (.ref x), l1] [] σ Q = Ev d 110 112 [some (.ref x), l1] [.ref x] σ Q := ev_A1 d110_111 rfl
theorem d110_112 : decode (ab_C 110) 112 = .ok (.getfield 22, 3) := by decide +kernel
theorem e110_112 {d : Nat} {l0 l1 : Option Value} {s0 : Nat} {σ : ab_St} {Q : Option Value → ab_St → Prop} : Ev d 110 112 [l0, l1] [.ref s0] σ Q = (ab_k s0 = 10 ∧ Ev d 110 115 [l0, l1] [.ref (ab_r s0 11)] σ Q) := ev_Hc (c := ab_k s0 = 10) d110_112 rfl rfl rfl rfl rfl rfl rfl rfl
theorem d110_115 : decode (ab_C 110) 115 = .ok (.iload_n 1, 1) := by decide +kernel
theorem e110_115 {d : Nat} {l0 : Option Value} {x : Int32} {s0 : Nat} {σ : ab_St} {Q : Option Value → ab_St → Prop} : Ev d 110 115 [l0, some (.int x)] [.ref s0] σ Q = Ev d 110 116 [l0, some (.int x)] [.int x, .ref s0] σ Q := ev_A1 d110_115 rfl
theorem d110_116 : decode (ab_C 110) 116 = .ok (.aload_n 0, 1) := by decide +kernel
theorem e110_116 {d : Nat} {l1 : Option Value} {x : Nat} {s0 : Int32} {s1 : Nat} {σ : ab_St} {Q : Option Value → ab_St → Prop} : Ev d 110 116 [some (.ref x), l1] [.int s0, .ref s1] σ Q = Ev d 110 117 [some (.ref x), l1] [.ref x, .int s0, .ref s1] σ Q := ev_A1 d110_116 rfl
theorem d110_117 : decode (ab_C 110) 117 = .ok (.getfield 41, 3) := by decide +kernel
theorem e110_117 {d : Nat} {l0 l1 : Option Value} {s0 : Nat} {s1 : Int32} {s2 : Nat} {σ : ab_St} {Q : Option Value → ab_St → Prop} : Ev d 110 117 [l0, l1] [.ref s0, .int s1, .ref s2] σ Q = (ab_k s0 = 10 ∧ Ev d 110 120 [l0, l1] [.ref (ab_r s0 22), .int s1, .ref s2] σ Q) := ev_Hc (c := ab_k s0 = 10) d110_117 rfl rfl rfl rfl rfl rfl rfl rfl
theorem d110_120 : decode (ab_C 110) 120 = .ok (.iload_n 1, 1) := by decide +kernel
theorem e110_120 {d : Nat} {l0 : Option Value} {x : Int32} {s0 : Nat} {s1 : Int32} {s2 : Nat} {σ : ab_St} {Q : Option Value → ab_St → Prop} : Ev d 110 120 [l0, some (.int x)] [.ref s0, .int s1, .ref s2] σ Q = Ev d 110 121 [l0, some (.int x)] [.int x, .ref s0, .int s1, .ref s2] σ Q := ev_A1 d110_120 rfl
theorem d110_121 : decode (ab_C 110) 121 = .ok (.iaload, 1) := by decide +kernel
theorem e110_121 {d : Nat} {l0 l1 : Option Value} {s0 : Int32} {s1 : Nat} {s2 : Int32} {s3 : Nat} {σ : ab_St} {Q : Option Value → ab_St → Prop} : Ev d 110 121 [l0, l1] [.int s0, .ref s1, .int s2, .ref s3] σ Q = ((ab_k s1 = 100 ∧ ab_in s0 (ab_n s1)) ∧ Ev d 110 122 [l0, l1] [.int (σ.1 s1 s0.toNatClampNeg), .int s2, .ref s3] σ Q) := ev_Hc (c := ab_k s1 = 100 ∧ ab_in s0 (ab_n s1)) d110_121 rfl rfl rfl rfl rfl rfl rfl rfl
theorem d110_122 : decode (ab_C 110) 122 = .ok (.iastore, 1) := by decide +kernel
theorem e110_122 {d : Nat} {l0 l1 : Option Value} {s0 : Int32} {s1 : Int32} {s2 : Nat} {σ : ab_St} {Q : Option Value → ab_St → Prop} : Ev d 110 122 [l0, l1] [.int s0, .int s1, .ref s2] σ Q = ((ab_k s2 = 100 ∧ ab_in s1 (ab_n s2)) ∧ Ev d 110 123 [l0, l1] [] (ab_wI σ s2 (upd (σ.1 s2) s1.toNatClampNeg s0)) Q) := ev_Hc (c := ab_k s2 = 100 ∧ ab_in s1 (ab_n s2)) d110_122 rfl rfl rfl rfl rfl rfl rfl rfl
theorem d110_123 : decode (ab_C 110) 123 = .ok (.aload_n 0, 1) := by decide +kernel
theorem e110_123 {d : Nat} {l1 : Option Value} {x : Nat} {σ : ab_St} {Q : Option Value → ab_St → Prop} : Ev d 110 123 [some (.ref x), l1] [] σ Q = Ev d 110 124 [some (.ref x), l1] [.ref x] σ Q := ev_A1 d110_123 rfl
theorem d110_124 : decode (ab_C 110) 124 = .ok (.getfield 25, 3) := by decide +kernel
theorem e110_124 {d : Nat} {l0 l1 : Option Value} {s0 : Nat} {σ : ab_St} {Q : Option Value → ab_St → Prop} : Ev d 110 124 [l0, l1] [.ref s0] σ Q = (ab_k s0 = 10 ∧ Ev d 110 127 [l0, l1] [.ref (ab_r s0 12)] σ Q) := ev_Hc (c := ab_k s0 = 10) d110_124 rfl rfl rfl rfl rfl rfl rfl rfl
theorem d110_127 : decode (ab_C 110) 127 = .ok (.iload_n 1, 1) := by decide +kernel
theorem e110_127 {d : Nat} {l0 : Option Value} {x : Int32} {s0 : Nat} {σ : ab_St} {Q : Option Value → ab_St → Prop} : Ev d 110 127 [l0, some (.int x)] [.ref s0] σ Q = Ev d 110 128 [l0, some (.int x)] [.int x, .ref s0] σ Q := ev_A1 d110_127 rfl
theorem d110_128 : decode (ab_C 110) 128 = .ok (.aload_n 0, 1) := by decide +kernel
theorem e110_128 {d : Nat} {l1 : Option Value} {x : Nat} {s0 : Int32} {s1 : Nat} {σ : ab_St} {Q : Option Value → ab_St → Prop} : Ev d 110 128 [some (.ref x), l1] [.int s0, .ref s1] σ Q = Ev d 110 129 [some (.ref x), l1] [.ref x, .int s0, .ref s1] σ Q := ev_A1 d110_128 rfl
theorem d110_129 : decode (ab_C 110) 129 = .ok (.getfield 44, 3) := by decide +kernel
theorem e110_129 {d : Nat} {l0 l1 : Option Value} {s0 : Nat} {s1 : Int32} {s2 : Nat} {σ : ab_St} {Q : Option Value → ab_St → Prop} : Ev d 110 129 [l0, l1] [.ref s0, .int s1, .ref s2] σ Q = (ab_k s0 = 10 ∧ Ev d 110 132 [l0, l1] [.ref (ab_r s0 23), .int s1, .ref s2] σ Q) := ev_Hc (c := ab_k s0 = 10) d110_129 rfl rfl rfl rfl rfl rfl rfl rfl
theorem d110_132 : decode (ab_C 110) 132 = .ok (.iload_n 1, 1) := by decide +kernel
theorem e110_132 {d : Nat} {l0 : Option Value} {x : Int32} {s0 : Nat} {s1 : Int32} {s2 : Nat} {σ : ab_St} {Q : Option Value → ab_St → Prop} : Ev d 110 132 [l0, some (.int x)] [.ref s0, .int s1, .ref s2] σ Q = Ev d 110 133 [l0, some (.int x)] [.int x, .ref s0, .int s1, .ref s2] σ Q := ev_A1 d110_132 rfl
theorem d110_133 : decode (ab_C 110) 133 = .ok (.iaload, 1) := by decide +kernel
theorem e110_133 {d : Nat} {l0 l1 : Option Value} {s0 : Int32} {s1 : Nat} {s2 : Int32} {s3 : Nat} {σ : ab_St} {Q : Option Value → ab_St → Prop} : Ev d 110 133 [l0, l1] [.int s0, .ref s1, .int s2, .ref s3] σ Q = ((ab_k s1 = 100 ∧ ab_in s0 (ab_n s1)) ∧ Ev d 110 134 [l0, l1] [.int (σ.1 s1 s0.toNatClampNeg), .int s2, .ref s3] σ Q) := ev_Hc (c := ab_k s1 = 100 ∧ ab_in s0 (ab_n s1)) d110_133 rfl rfl rfl rfl rfl rfl rfl rfl
theorem d110_134 : decode (ab_C 110) 134 = .ok (.iastore, 1) := by decide +kernel
theorem e110_134 {d : Nat} {l0 l1 : Option Value} {s0 : Int32} {s1 : Int32} {s2 : Nat} {σ : ab_St} {Q : Option Value → ab_St → Prop} : Ev d 110 134 [l0, l1] [.int s0, .int s1, .ref s2] σ Q = ((ab_k s2 = 100 ∧ ab_in s1 (ab_n s2)) ∧ Ev d 110 135 [l0, l1] [] (ab_wI σ s2 (upd (σ.1 s2) s1.toNatClampNeg s0)) Q) := ev_Hc (c := ab_k s2 = 100 ∧ ab_in s1 (ab_n s2)) d110_134 rfl rfl rfl rfl rfl rfl rfl rfl
theorem d110_135 : decode (ab_C 110) 135 = .ok (.iinc 1 1, 3) := by decide +kernel
theorem e110_135 {d : Nat} {l0 : Option Value} {x : Int32} {σ : ab_St} {Q : Option Value → ab_St → Prop} : Ev d 110 135 [l0, some (.int x)] [] σ Q = Ev d 110 138 [l0, some (.int (x + 1))] [] σ Q := ev_S d110_135 rfl rfl rfl rfl
theorem d110_138 : decode (ab_C 110) 138 = .ok (.goto (-59), 3) := by decide +kernel
theorem e110_138 {d : Nat} {l0 l1 : Option Value} {σ : ab_St} {Q : Option Value → ab_St → Prop} : Ev d 110 138 [l0, l1] [] σ Q = Ev d 110 79 [l0, l1] [] σ Q := ev_J d110_138 rfl rfl rfl rfl rfl
theorem d110_141 : decode (ab_C 110) 141 = .ok (.aload_n 0, 1) := by decide +kernel
theorem e110_141 {d : Nat} {l1 : Option Value} {x : Nat} {σ : ab_St} {Q : Option Value → ab_St → Prop} : Ev d 110 141 [some (.ref x), l1] [] σ Q = Ev d 110 142 [some (.ref x), l1] [.ref x] σ Q := ev_A1 d110_141 rfl
theorem d110_142 : decode (ab_C 110) 142 = .ok (.iconst 0, 1) := by decide +kernel
theorem e110_142 {d : Nat} {l0 l1 : Option Value} {s0 : Nat} {σ : ab_St} {Q : Option Value → ab_St → Prop} : Ev d 110 142 [l0, l1] [.ref s0] σ Q = Ev d 110 143 [l0, l1] [.int 0, .ref s0] σ Q := ev_A1 d110_142 rfl
theorem d110_143 : decode (ab_C 110) 143 = .ok (.putfield 141, 3) := by decide +kernel
theorem e110_143 {d : Nat} {l0 l1 : Option Value} {s0 : Int32} {s1 : Nat} {σ : ab_St} {Q : Option Value → ab_St → Prop} : Ev d 110 143 [l0, l1] [.int s0, .ref s1] σ Q = (ab_k s1 = 10 ∧ Ev d 110 146 [l0, l1] [] (ab_wI σ s1 (upd (σ.1 s1) 13 s0)) Q) := ev_Hc (c := ab_k s1 = 10) d110_143 rfl rfl rfl rfl rfl rfl rfl rfl
theorem d110_146 : decode (ab_C 110) 146 = .ok (.aload_n 0, 1) := by decide +kernel
theorem e110_146 {d : Nat} {l1 : Option Value} {x : Nat} {σ : ab_St} {Q : Option Value → ab_St → Prop} : Ev d 110 146 [some (.ref x), l1] [] σ Q = Ev d 110 147 [some (.ref x), l1] [.ref x] σ Q := ev_A1 d110_146 rfl
theorem d110_147 : decode (ab_C 110) 147 = .ok (.bipush (-9), 2) := by decide +kernel
theorem e110_147 {d : Nat} {l0 l1 : Option Value} {s0 : Nat} {σ : ab_St} {Q : Option Value → ab_St → Prop} : Ev d 110 147 [l0, l1] [.ref s0] σ Q = Ev d 110 149 [l0, l1] [.int (-9), .ref s0] σ Q := ev_A1 d110_147 rfl
theorem d110_149 : decode (ab_C 110) 149 = .ok (.putfield 28, 3) := by decide +kernel
theorem e110_149 {d : Nat} {l0 l1 : Option Value} {s0 : Int32} {s1 : Nat} {σ : ab_St} {Q : Option Value → ab_St → Prop} : Ev d 110 149 [l0, l1] [.int s0, .ref s1] σ Q = (ab_k s1 = 10 ∧ Ev d 110 152 [l0, l1] [] (ab_wI σ s1 (upd (σ.1 s1) 14 s0)) Q) := ev_Hc (c := ab_k s1 = 10) d110_149 rfl rfl rfl rfl rfl rfl rfl rfl
theorem d110_152 : decode (ab_C 110) 152 = .ok (.aload_n 0, 1) := by decide +kernel
theorem e110_152 {d : Nat} {l1 : Option Value} {x : Nat} {σ : ab_St} {Q : Option Value → ab_St → Prop} : Ev d 110 152 [some (.ref x), l1] [] σ Q = Ev d 110 153 [some (.ref x), l1] [.ref x] σ Q := ev_A1 d110_152 rfl
theorem d110_153 : decode (ab_C 110) 153 = .ok (.iconst 0, 1) := by decide +kernel
theorem e110_153 {d : Nat} {l0 l1 : Option Value} {s0 : Nat} {σ : ab_St} {Q : Option Value → ab_St → Prop} : Ev d 110 153 [l0, l1] [.ref s0] σ Q = Ev d 110 154 [l0, l1] [.int 0, .ref s0] σ Q := ev_A1 d110_153 rfl
theorem d110_154 : decode (ab_C 110) 154 = .ok (.putfield 144, 3) := by decide +kernel
theorem e110_154 {d : Nat} {l0 l1 : Option Value} {s0 : Int32} {s1 : Nat} {σ : ab_St} {Q : Option Value → ab_St → Prop} : Ev d 110 154 [l0, l1] [.int s0, .ref s1] σ Q = (ab_k s1 = 10 ∧ Ev d 110 157 [l0, l1] [] (ab_wI σ s1 (upd (σ.1 s1) 25 s0)) Q) := ev_Hc (c := ab_k s1 = 10) d110_154 rfl rfl rfl rfl rfl rfl rfl rfl
theorem d110_157 : decode (ab_C 110) 157 = .ok (.aload_n 0, 1) := by decide +kernel
theorem e110_157 {d : Nat} {l1 : Option Value} {x : Nat} {σ : ab_St} {Q : Option Value → ab_St → Prop} : Ev d 110 157 [some (.ref x), l1] [] σ Q = Ev d 110 158 [some (.ref x), l1] [.ref x] σ Q := ev_A1 d110_157 rfl
theorem d110_158 : decode (ab_C 110) 158 = .ok (.getfield 53, 3) := by decide +kernel
theorem e110_158 {d : Nat} {l0 l1 : Option Value} {s0 : Nat} {σ : ab_St} {Q : Option Value → ab_St → Prop} : Ev d 110 158 [l0, l1] [.ref s0] σ Q = (ab_k s0 = 10 ∧ Ev d 110 161 [l0, l1] [.ref (ab_r s0 27)] σ Q) := ev_Hc (c := ab_k s0 = 10) d110_158 rfl rfl rfl rfl rfl rfl rfl rfl
theorem d110_161 : decode (ab_C 110) 161 = .ok (.iconst 0, 1) := by decide +kernel
theorem e110_161 {d : Nat} {l0 l1 : Option Value} {s0 : Nat} {σ : ab_St} {Q : Option Value → ab_St → Prop} : Ev d 110 161 [l0, l1] [.ref s0] σ Q = Ev d 110 162 [l0, l1] [.int 0, .ref s0] σ Q := ev_A1 d110_161 rfl
theorem d110_162 : decode (ab_C 110) 162 = .ok (.iconst 0, 1) := by decide +kernel
theorem e110_162 {d : Nat} {l0 l1 : Option Value} {s0 : Int32} {s1 : Nat} {σ : ab_St} {Q : Option Value → ab_St → Prop} : Ev d 110 162 [l0, l1] [.int s0, .ref s1] σ Q = Ev d 110 163 [l0, l1] [.int 0, .int s0, .ref s1] σ Q := ev_A1 d110_162 rfl
theorem d110_163 : decode (ab_C 110) 163 = .ok (.bastore, 1) := by decide +kernel
theorem e110_163 {d : Nat} {l0 l1 : Option Value} {s0 : Int32} {s1 : Int32} {s2 : Nat} {σ : ab_St} {Q : Option Value → ab_St → Prop} : Ev d 110 163 [l0, l1] [.int s0, .int s1, .ref s2] σ Q = if ab_k s2 = 101 ∧ ab_in s1 (ab_n s2) then Ev d 110 164 [l0, l1] [] (ab_wI σ s2 (upd (σ.1 s2) s1.toNatClampNeg (vp_nar .byte s0))) Q else ((ab_k s2 = 102 ∧ ab_in s1 (ab_n s2)) ∧ Ev d 110 164 [l0, l1] [] (ab_wI σ s2 (upd (σ.1 s2) s1.toNatClampNeg (vp_nar .boolean s0))) Q) := ev_bast (j := 0) d110_163 
theorem d110_164 : decode (ab_C 110) 164 = .ok (.aload_n 0, 1) := by decide +kernel
theorem e110_164 {d : Nat} {l1 : Option Value} {x : Nat} {σ : ab_St} {Q : Option Value → ab_St → Prop} : Ev d 110 164 [some (.ref x), l1] [] σ Q = Ev d 110 165 [some (.ref x), l1] [.ref x] σ Q := ev_A1 d110_164 rfl
theorem d110_165 : decode (ab_C 110) 165 = .ok (.getfield 53, 3) := by decide +kernel
theorem e110_165 {d : Nat} {l0 l1 : Option Value} {s0 : Nat} {σ : ab_St} {Q : Option Value → ab_St → Prop} : Ev d 110 165 [l0, l1] [.ref s0] σ Q = (ab_k s0 = 10 ∧ Ev d 110 168 [l0, l1] [.ref (ab_r s0 27)] σ Q) := ev_Hc (c := ab_k s0 = 10) d110_165 rfl rfl rfl rfl rfl rfl rfl rfl
theorem d110_168 : decode (ab_C 110) 168 = .ok (.iconst 1, 1) := by decide +kernel
theorem e110_168 {d : Nat} {l0 l1 : Option Value} {s0 : Nat} {σ : ab_St} {Q : Option Value → ab_St → Prop} : Ev d 110 168 [l0, l1] [.ref s0] σ Q = Ev d 110 169 [l0, l1] [.int 1, .ref s0] σ Q := ev_A1 d110_168 rfl
theorem d110_169 : decode (ab_C 110) 169 = .ok (.iconst 0, 1) := by decide +kernel
theorem e110_169 {d : Nat} {l0 l1 : Option Value} {s0 : Int32} {s1 : Nat} {σ : ab_St} {Q : Option Value → ab_St → Prop} : Ev d 110 169 [l0, l1] [.int s0, .ref s1] σ Q = Ev d 110 170 [l0, l1] [.int 0, .int s0, .ref s1] σ Q := ev_A1 d110_169 rfl
theorem d110_170 : decode (ab_C 110) 170 = .ok (.bastore, 1) := by decide +kernel
theorem e110_170 {d : Nat} {l0 l1 : Option Value} {s0 : Int32} {s1 : Int32} {s2 : Nat} {σ : ab_St} {Q : Option Value → ab_St → Prop} : Ev d 110 170 [l0, l1] [.int s0, .int s1, .ref s2] σ Q = if ab_k s2 = 101 ∧ ab_in s1 (ab_n s2) then Ev d 110 171 [l0, l1] [] (ab_wI σ s2 (upd (σ.1 s2) s1.toNatClampNeg (vp_nar .byte s0))) Q else ((ab_k s2 = 102 ∧ ab_in s1 (ab_n s2)) ∧ Ev d 110 171 [l0, l1] [] (ab_wI σ s2 (upd (σ.1 s2) s1.toNatClampNeg (vp_nar .boolean s0))) Q) := ev_bast (j := 0) d110_170 
theorem d110_171 : decode (ab_C 110) 171 = .ok (.aload_n 0, 1) := by decide +kernel
theorem e110_171 {d : Nat} {l1 : Option Value} {x : Nat} {σ : ab_St} {Q : Option Value → ab_St → Prop} : Ev d 110 171 [some (.ref x), l1] [] σ Q = Ev d 110 172 [some (.ref x), l1] [.ref x] σ Q := ev_A1 d110_171 rfl
theorem d110_172 : decode (ab_C 110) 172 = .ok (.getfield 82, 3) := by decide +kernel
theorem e110_172 {d : Nat} {l0 l1 : Option Value} {s0 : Nat} {σ : ab_St} {Q : Option Value → ab_St → Prop} : Ev d 110 172 [l0, l1] [.ref s0] σ Q = (ab_k s0 = 10 ∧ Ev d 110 175 [l0, l1] [.int (σ.1 s0 5)] σ Q) := ev_Hc (c := ab_k s0 = 10) d110_172 rfl rfl rfl rfl rfl rfl rfl rfl
theorem d110_175 : decode (ab_C 110) 175 = .ok (.ireturn, 1) := by decide +kernel
theorem e110_175 {d : Nat} {l0 l1 : Option Value} {s0 : Int32} {σ : ab_St} {Q : Option Value → ab_St → Prop} : Ev d 110 175 [l0, l1] [.int s0] σ Q = Q (some (.int s0)) σ := ev_E d110_175 rfl rfl rfl rfl rfl rfl rfl
/-! SaidLeastModel.about(I)I -/
theorem d111_0 : decode (ab_C 111) 0 = .ok (.aload_n 0, 1) := by decide +kernel
theorem e111_0 {d : Nat} {l1 l2 l3 : Option Value} {x : Nat} {σ : ab_St} {Q : Option Value → ab_St → Prop} : Ev d 111 0 [some (.ref x), l1, l2, l3] [] σ Q = Ev d 111 1 [some (.ref x), l1, l2, l3] [.ref x] σ Q := ev_A1 d111_0 rfl
theorem d111_1 : decode (ab_C 111) 1 = .ok (.iconst 0, 1) := by decide +kernel
theorem e111_1 {d : Nat} {l0 l1 l2 l3 : Option Value} {s0 : Nat} {σ : ab_St} {Q : Option Value → ab_St → Prop} : Ev d 111 1 [l0, l1, l2, l3] [.ref s0] σ Q = Ev d 111 2 [l0, l1, l2, l3] [.int 0, .ref s0] σ Q := ev_A1 d111_1 rfl
theorem d111_2 : decode (ab_C 111) 2 = .ok (.putfield 79, 3) := by decide +kernel
theorem e111_2 {d : Nat} {l0 l1 l2 l3 : Option Value} {s0 : Int32} {s1 : Nat} {σ : ab_St} {Q : Option Value → ab_St → Prop} : Ev d 111 2 [l0, l1, l2, l3] [.int s0, .ref s1] σ Q = (ab_k s1 = 10 ∧ Ev d 111 5 [l0, l1, l2, l3] [] (ab_wI σ s1 (upd (σ.1 s1) 0 s0)) Q) := ev_Hc (c := ab_k s1 = 10) d111_2 rfl rfl rfl rfl rfl rfl rfl rfl
theorem d111_5 : decode (ab_C 111) 5 = .ok (.aload_n 0, 1) := by decide +kernel
theorem e111_5 {d : Nat} {l1 l2 l3 : Option Value} {x : Nat} {σ : ab_St} {Q : Option Value → ab_St → Prop} : Ev d 111 5 [some (.ref x), l1, l2, l3] [] σ Q = Ev d 111 6 [some (.ref x), l1, l2, l3] [.ref x] σ Q := ev_A1 d111_5 rfl
theorem d111_6 : decode (ab_C 111) 6 = .ok (.invokevirtual 158, 3) := by decide +kernel
theorem e111_6 {d : Nat} {l0 l1 l2 l3 : Option Value} {s0 : Nat} {σ : ab_St} {Q : Option Value → ab_St → Prop} : Ev (d + 1) 111 6 [l0, l1, l2, l3] [.ref s0] σ Q = (ab_k s0 = 10 ∧ Ev d 112 0 [some (.ref s0), none] [] σ (fun r σ2 => Ev (d + 1) 111 9 [l0, l1, l2, l3] (r.toList ++ []) σ2 Q)) := ev_KV (b := s0) (ls := [l0, l1, l2, l3]) (st := [.ref s0]) (as := []) (rest := []) d111_6 rfl rfl rfl (Nat.le_of_ble_eq_true rfl) (Nat.le_of_ble_eq_true rfl) (Nat.le_of_ble_eq_true rfl) rfl rfl rfl rfl rfl rfl rfl
theorem d111_9 : decode (ab_C 111) 9 = .ok (.iconst 0, 1) := by decide +kernel
theorem e111_9 {d : Nat} {l0 l1 l2 l3 : Option Value} {σ : ab_St} {Q : Option Value → ab_St → Prop} : Ev d 111 9 [l0, l1, l2, l3] [] σ Q = Ev d 111 10 [l0, l1, l2, l3] [.int 0] σ Q := ev_A1 d111_9 rfl
theorem d111_10 : decode (ab_C 111) 10 = .ok (.istore_n 2, 1) := by decide +kernel
theorem e111_10 {d : Nat} {l0 l1 l2 l3 : Option Value} {s0 : Int32} {σ : ab_St} {Q : Option Value → ab_St → Prop} : Ev d 111 10 [l0, l1, l2, l3] [.int s0] σ Q = Ev d 111 11 [l0, l1, some (.int s0), l3] [] σ Q := ev_S d111_10 rfl rfl rfl rfl
theorem d111_11 : decode (ab_C 111) 11 = .ok (.iconst 0, 1) := by decide +kernel
theorem e111_11 {d : Nat} {l0 l1 l2 l3 : Option Value} {σ : ab_St} {Q : Option Value → ab_St → Prop} : Ev d 111 11 [l0, l1, l2, l3] [] σ Q = Ev d 111 12 [l0, l1, l2, l3] [.int 0] σ Q := ev_A1 d111_11 rfl
theorem d111_12 : decode (ab_C 111) 12 = .ok (.istore_n 3, 1) := by decide +kernel
theorem e111_12 {d : Nat} {l0 l1 l2 l3 : Option Value} {s0 : Int32} {σ : ab_St} {Q : Option Value → ab_St → Prop} : Ev d 111 12 [l0, l1, l2, l3] [.int s0] σ Q = Ev d 111 13 [l0, l1, l2, some (.int s0)] [] σ Q := ev_S d111_12 rfl rfl rfl rfl
theorem d111_13 : decode (ab_C 111) 13 = .ok (.iload_n 3, 1) := by decide +kernel
theorem e111_13 {d : Nat} {l0 l1 l2 : Option Value} {x : Int32} {σ : ab_St} {Q : Option Value → ab_St → Prop} : Ev d 111 13 [l0, l1, l2, some (.int x)] [] σ Q = Ev d 111 14 [l0, l1, l2, some (.int x)] [.int x] σ Q := ev_A1 d111_13 rfl
theorem d111_14 : decode (ab_C 111) 14 = .ok (.aload_n 0, 1) := by decide +kernel
theorem e111_14 {d : Nat} {l1 l2 l3 : Option Value} {x : Nat} {s0 : Int32} {σ : ab_St} {Q : Option Value → ab_St → Prop} : Ev d 111 14 [some (.ref x), l1, l2, l3] [.int s0] σ Q = Ev d 111 15 [some (.ref x), l1, l2, l3] [.ref x, .int s0] σ Q := ev_A1 d111_14 rfl
theorem d111_15 : decode (ab_C 111) 15 = .ok (.getfield 82, 3) := by decide +kernel
theorem e111_15 {d : Nat} {l0 l1 l2 l3 : Option Value} {s0 : Nat} {s1 : Int32} {σ : ab_St} {Q : Option Value → ab_St → Prop} : Ev d 111 15 [l0, l1, l2, l3] [.ref s0, .int s1] σ Q = (ab_k s0 = 10 ∧ Ev d 111 18 [l0, l1, l2, l3] [.int (σ.1 s0 5), .int s1] σ Q) := ev_Hc (c := ab_k s0 = 10) d111_15 rfl rfl rfl rfl rfl rfl rfl rfl
theorem d111_18 : decode (ab_C 111) 18 = .ok (.if_icmp .ge 33, 3) := by decide +kernel
theorem e111_18 {d : Nat} {l0 l1 l2 l3 : Option Value} {s0 : Int32} {s1 : Int32} {σ : ab_St} {Q : Option Value → ab_St → Prop} : Ev d 111 18 [l0, l1, l2, l3] [.int s0, .int s1] σ Q = if s0 ≤ s1 then Ev d 111 51 [l0, l1, l2, l3] [] σ Q else Ev d 111 21 [l0, l1, l2, l3] [] σ Q := ev_B (c := s0 ≤ s1) d111_18 rfl rfl rfl rfl rfl
theorem d111_21 : decode (ab_C 111) 21 = .ok (.iload_n 2, 1) := by decide +kernel
theorem e111_21 {d : Nat} {l0 l1 l3 : Option Value} {x : Int32} {σ : ab_St} {Q : Option Value → ab_St → Prop} : Ev d 111 21 [l0, l1, some (.int x), l3] [] σ Q = Ev d 111 22 [l0, l1, some (.int x), l3] [.int x] σ Q := ev_A1 d111_21 rfl
theorem d111_22 : decode (ab_C 111) 22 = .ok (.aload_n 0, 1) := by decide +kernel
theorem e111_22 {d : Nat} {l1 l2 l3 : Option Value} {x : Nat} {s0 : Int32} {σ : ab_St} {Q : Option Value → ab_St → Prop} : Ev d 111 22 [some (.ref x), l1, l2, l3] [.int s0] σ Q = Ev d 111 23 [some (.ref x), l1, l2, l3] [.ref x, .int s0] σ Q := ev_A1 d111_22 rfl
theorem d111_23 : decode (ab_C 111) 23 = .ok (.getfield 138, 3) := by decide +kernel
theorem e111_23 {d : Nat} {l0 l1 l2 l3 : Option Value} {s0 : Nat} {s1 : Int32} {σ : ab_St} {Q : Option Value → ab_St → Prop} : Ev d 111 23 [l0, l1, l2, l3] [.ref s0, .int s1] σ Q = (ab_k s0 = 10 ∧ Ev d 111 26 [l0, l1, l2, l3] [.int (σ.1 s0 7), .int s1] σ Q) := ev_Hc (c := ab_k s0 = 10) d111_23 rfl rfl rfl rfl rfl rfl rfl rfl
theorem d111_26 : decode (ab_C 111) 26 = .ok (.iload_n 3, 1) := by decide +kernel
theorem e111_26 {d : Nat} {l0 l1 l2 : Option Value} {x : Int32} {s0 : Int32} {s1 : Int32} {σ : ab_St} {Q : Option Value → ab_St → Prop} : Ev d 111 26 [l0, l1, l2, some (.int x)] [.int s0, .int s1] σ Q = Ev d 111 27 [l0, l1, l2, some (.int x)] [.int x, .int s0, .int s1] σ Q := ev_A1 d111_26 rfl
theorem d111_27 : decode (ab_C 111) 27 = .ok (.invokestatic 154, 3) := by decide +kernel
theorem e111_27 {d : Nat} {l0 l1 l2 l3 : Option Value} {s0 : Int32} {s1 : Int32} {s2 : Int32} {σ : ab_St} {Q : Option Value → ab_St → Prop} : Ev (d + 1) 111 27 [l0, l1, l2, l3] [.int s0, .int s1, .int s2] σ Q = Ev d 113 0 [some (.int s1), some (.int s0)] [] σ (fun r σ2 => Ev (d + 1) 111 30 [l0, l1, l2, l3] (r.toList ++ [.int s2]) σ2 Q) := ev_K0 (y := 113) (ls := [l0, l1, l2, l3]) (st := [.int s0, .int s1, .int s2]) (as := [.int s1, .int s0]) (rest := [.int s2]) d111_27 rfl rfl rfl rfl rfl rfl rfl rfl
theorem d111_30 : decode (ab_C 111) 30 = .ok (.ifCond .eq 12, 3) := by decide +kernel
theorem e111_30 {d : Nat} {l0 l1 l2 l3 : Option Value} {s0 : Int32} {s1 : Int32} {σ : ab_St} {Q : Option Value → ab_St → Prop} : Ev d 111 30 [l0, l1, l2, l3] [.int s0, .int s1] σ Q = if s0 = 0 then Ev d 111 42 [l0, l1, l2, l3] [.int s1] σ Q else Ev d 111 33 [l0, l1, l2, l3] [.int s1] σ Q := ev_B (c := s0 = 0) d111_30 rfl rfl rfl rfl rfl
theorem d111_33 : decode (ab_C 111) 33 = .ok (.aload_n 0, 1) := by decide +kernel
theorem e111_33 {d : Nat} {l1 l2 l3 : Option Value} {x : Nat} {s0 : Int32} {σ : ab_St} {Q : Option Value → ab_St → Prop} : Ev d 111 33 [some (.ref x), l1, l2, l3] [.int s0] σ Q = Ev d 111 34 [some (.ref x), l1, l2, l3] [.ref x, .int s0] σ Q := ev_A1 d111_33 rfl
theorem d111_34 : decode (ab_C 111) 34 = .ok (.getfield 13, 3) := by decide +kernel
theorem e111_34 {d : Nat} {l0 l1 l2 l3 : Option Value} {s0 : Nat} {s1 : Int32} {σ : ab_St} {Q : Option Value → ab_St → Prop} : Ev d 111 34 [l0, l1, l2, l3] [.ref s0, .int s1] σ Q = (ab_k s0 = 10 ∧ Ev d 111 37 [l0, l1, l2, l3] [.ref (ab_r s0 6), .int s1] σ Q) := ev_Hc (c := ab_k s0 = 10) d111_34 rfl rfl rfl rfl rfl rfl rfl rfl
theorem d111_37 : decode (ab_C 111) 37 = .ok (.iload_n 3, 1) := by decide +kernel
theorem e111_37 {d : Nat} {l0 l1 l2 : Option Value} {x : Int32} {s0 : Nat} {s1 : Int32} {σ : ab_St} {Q : Option Value → ab_St → Prop} : Ev d 111 37 [l0, l1, l2, some (.int x)] [.ref s0, .int s1] σ Q = Ev d 111 38 [l0, l1, l2, some (.int x)] [.int x, .ref s0, .int s1] σ Q := ev_A1 d111_37 rfl
theorem d111_38 : decode (ab_C 111) 38 = .ok (.iaload, 1) := by decide +kernel
theorem e111_38 {d : Nat} {l0 l1 l2 l3 : Option Value} {s0 : Int32} {s1 : Nat} {s2 : Int32} {σ : ab_St} {Q : Option Value → ab_St → Prop} : Ev d 111 38 [l0, l1, l2, l3] [.int s0, .ref s1, .int s2] σ Q = ((ab_k s1 = 100 ∧ ab_in s0 (ab_n s1)) ∧ Ev d 111 39 [l0, l1, l2, l3] [.int (σ.1 s1 s0.toNatClampNeg), .int s2] σ Q) := ev_Hc (c := ab_k s1 = 100 ∧ ab_in s0 (ab_n s1)) d111_38 rfl rfl rfl rfl rfl rfl rfl rfl
theorem d111_39 : decode (ab_C 111) 39 = .ok (.goto 4, 3) := by decide +kernel
theorem e111_39 {d : Nat} {l0 l1 l2 l3 : Option Value} {s0 : Int32} {s1 : Int32} {σ : ab_St} {Q : Option Value → ab_St → Prop} : Ev d 111 39 [l0, l1, l2, l3] [.int s0, .int s1] σ Q = Ev d 111 43 [l0, l1, l2, l3] [.int s0, .int s1] σ Q := ev_J d111_39 rfl rfl rfl rfl rfl
theorem d111_42 : decode (ab_C 111) 42 = .ok (.iconst 0, 1) := by decide +kernel
theorem e111_42 {d : Nat} {l0 l1 l2 l3 : Option Value} {s0 : Int32} {σ : ab_St} {Q : Option Value → ab_St → Prop} : Ev d 111 42 [l0, l1, l2, l3] [.int s0] σ Q = Ev d 111 43 [l0, l1, l2, l3] [.int 0, .int s0] σ Q := ev_A1 d111_42 rfl
theorem d111_43 : decode (ab_C 111) 43 = .ok (.iadd, 1) := by decide +kernel
theorem e111_43 {d : Nat} {l0 l1 l2 l3 : Option Value} {s0 : Int32} {s1 : Int32} {σ : ab_St} {Q : Option Value → ab_St → Prop} : Ev d 111 43 [l0, l1, l2, l3] [.int s0, .int s1] σ Q = Ev d 111 44 [l0, l1, l2, l3] [.int (s1 + s0)] σ Q := ev_A2 d111_43 rfl rfl
theorem d111_44 : decode (ab_C 111) 44 = .ok (.istore_n 2, 1) := by decide +kernel
theorem e111_44 {d : Nat} {l0 l1 l2 l3 : Option Value} {s0 : Int32} {σ : ab_St} {Q : Option Value → ab_St → Prop} : Ev d 111 44 [l0, l1, l2, l3] [.int s0] σ Q = Ev d 111 45 [l0, l1, some (.int s0), l3] [] σ Q := ev_S d111_44 rfl rfl rfl rfl
theorem d111_45 : decode (ab_C 111) 45 = .ok (.iinc 3 1, 3) := by decide +kernel
theorem e111_45 {d : Nat} {l0 l1 l2 : Option Value} {x : Int32} {σ : ab_St} {Q : Option Value → ab_St → Prop} : Ev d 111 45 [l0, l1, l2, some (.int x)] [] σ Q = Ev d 111 48 [l0, l1, l2, some (.int (x + 1))] [] σ Q := ev_S d111_45 rfl rfl rfl rfl
theorem d111_48 : decode (ab_C 111) 48 = .ok (.goto (-35), 3) := by decide +kernel
theorem e111_48 {d : Nat} {l0 l1 l2 l3 : Option Value} {σ : ab_St} {Q : Option Value → ab_St → Prop} : Ev d 111 48 [l0, l1, l2, l3] [] σ Q = Ev d 111 13 [l0, l1, l2, l3] [] σ Q := ev_J d111_48 rfl rfl rfl rfl rfl
theorem d111_51 : decode (ab_C 111) 51 = .ok (.iload_n 1, 1) := by decide +kernel
theorem e111_51 {d : Nat} {l0 l2 l3 : Option Value} {x : Int32} {σ : ab_St} {Q : Option Value → ab_St → Prop} : Ev d 111 51 [l0, some (.int x), l2, l3] [] σ Q = Ev d 111 52 [l0, some (.int x), l2, l3] [.int x] σ Q := ev_A1 d111_51 rfl
theorem d111_52 : decode (ab_C 111) 52 = .ok (.tableswitch 118 0 10 #[60, 65, 70, 75, 80, 85, 90, 101, 106, 108, 113], 60) := by decide +kernel
theorem e111_52 {d : Nat} {l0 l1 l2 l3 : Option Value} {s0 : Int32} {σ : ab_St} {Q : Option Value → ab_St → Prop} : Ev d 111 52 [l0, l1, l2, l3] [.int s0] σ Q = if s0 = 0 then Ev d 111 112 [l0, l1, l2, l3] [] σ Q else if s0 = 1 then Ev d 111 117 [l0, l1, l2, l3] [] σ Q else if s0 = 2 then Ev d 111 122 [l0, l1, l2, l3] [] σ Q else if s0 = 3 then Ev d 111 127 [l0, l1, l2, l3] [] σ Q else if s0 = 4 then Ev d 111 132 [l0, l1, l2, l3] [] σ Q else if s0 = 5 then Ev d 111 137 [l0, l1, l2, l3] [] σ Q else if s0 = 6 then Ev d 111 142 [l0, l1, l2, l3] [] σ Q else if s0 = 7 then Ev d 111 153 [l0, l1, l2, l3] [] σ Q else if s0 = 8 then Ev d 111 158 [l0, l1, l2, l3] [] σ Q else if s0 = 9 then Ev d 111 160 [l0, l1, l2, l3] [] σ Q else if s0 = 10 then Ev d 111 165 [l0, l1, l2, l3] [] σ Q else Ev d 111 170 [l0, l1, l2, l3] [] σ Q := ev_T (ts := [112, 117, 122, 127, 132, 137, 142, 153, 158, 160, 165]) (df := 170) d111_52 (by decide +kernel)
theorem d111_112 : decode (ab_C 111) 112 = .ok (.aload_n 0, 1) := by decide +kernel
theorem e111_112 {d : Nat} {l1 l2 l3 : Option Value} {x : Nat} {σ : ab_St} {Q : Option Value → ab_St → Prop} : Ev d 111 112 [some (.ref x), l1, l2, l3] [] σ Q = Ev d 111 113 [some (.ref x), l1, l2, l3] [.ref x] σ Q := ev_A1 d111_112 rfl
theorem d111_113 : decode (ab_C 111) 113 = .ok (.getfield 82, 3) := by decide +kernel
theorem e111_113 {d : Nat} {l0 l1 l2 l3 : Option Value} {s0 : Nat} {σ : ab_St} {Q : Option Value → ab_St → Prop} : Ev d 111 113 [l0, l1, l2, l3] [.ref s0] σ Q = (ab_k s0 = 10 ∧ Ev d 111 116 [l0, l1, l2, l3] [.int (σ.1 s0 5)] σ Q) := ev_Hc (c := ab_k s0 = 10) d111_113 rfl rfl rfl rfl rfl rfl rfl rfl
theorem d111_116 : decode (ab_C 111) 116 = .ok (.ireturn, 1) := by decide +kernel
theorem e111_116 {d : Nat} {l0 l1 l2 l3 : Option Value} {s0 : Int32} {σ : ab_St} {Q : Option Value → ab_St → Prop} : Ev d 111 116 [l0, l1, l2, l3] [.int s0] σ Q = Q (some (.int s0)) σ := ev_E d111_116 rfl rfl rfl rfl rfl rfl rfl
theorem d111_117 : decode (ab_C 111) 117 = .ok (.aload_n 0, 1) := by decide +kernel
theorem e111_117 {d : Nat} {l1 l2 l3 : Option Value} {x : Nat} {σ : ab_St} {Q : Option Value → ab_St → Prop} : Ev d 111 117 [some (.ref x), l1, l2, l3] [] σ Q = Ev d 111 118 [some (.ref x), l1, l2, l3] [.ref x] σ Q := ev_A1 d111_117 rfl
theorem d111_118 : decode (ab_C 111) 118 = .ok (.getfield 89, 3) := by decide +kernel
theorem e111_118 {d : Nat} {l0 l1 l2 l3 : Option Value} {s0 : Nat} {σ : ab_St} {Q : Option Value → ab_St → Prop} : Ev d 111 118 [l0, l1, l2, l3] [.ref s0] σ Q = (ab_k s0 = 10 ∧ Ev d 111 121 [l0, l1, l2, l3] [.int (σ.1 s0 8)] σ Q) := ev_Hc (c := ab_k s0 = 10) d111_118 rfl rfl rfl rfl rfl rfl rfl rfl
theorem d111_121 : decode (ab_C 111) 121 = .ok (.ireturn, 1) := by decide +kernel
theorem e111_121 {d : Nat} {l0 l1 l2 l3 : Option Value} {s0 : Int32} {σ : ab_St} {Q : Option Value → ab_St → Prop} : Ev d 111 121 [l0, l1, l2, l3] [.int s0] σ Q = Q (some (.int s0)) σ := ev_E d111_121 rfl rfl rfl rfl rfl rfl rfl
theorem d111_122 : decode (ab_C 111) 122 = .ok (.aload_n 0, 1) := by decide +kernel
theorem e111_122 {d : Nat} {l1 l2 l3 : Option Value} {x : Nat} {σ : ab_St} {Q : Option Value → ab_St → Prop} : Ev d 111 122 [some (.ref x), l1, l2, l3] [] σ Q = Ev d 111 123 [some (.ref x), l1, l2, l3] [.ref x] σ Q := ev_A1 d111_122 rfl
theorem d111_123 : decode (ab_C 111) 123 = .ok (.getfield 135, 3) := by decide +kernel
theorem e111_123 {d : Nat} {l0 l1 l2 l3 : Option Value} {s0 : Nat} {σ : ab_St} {Q : Option Value → ab_St → Prop} : Ev d 111 123 [l0, l1, l2, l3] [.ref s0] σ Q = (ab_k s0 = 10 ∧ Ev d 111 126 [l0, l1, l2, l3] [.int (σ.1 s0 4)] σ Q) := ev_Hc (c := ab_k s0 = 10) d111_123 rfl rfl rfl rfl rfl rfl rfl rfl
theorem d111_126 : decode (ab_C 111) 126 = .ok (.ireturn, 1) := by decide +kernel
theorem e111_126 {d : Nat} {l0 l1 l2 l3 : Option Value} {s0 : Int32} {σ : ab_St} {Q : Option Value → ab_St → Prop} : Ev d 111 126 [l0, l1, l2, l3] [.int s0] σ Q = Q (some (.int s0)) σ := ev_E d111_126 rfl rfl rfl rfl rfl rfl rfl
theorem d111_127 : decode (ab_C 111) 127 = .ok (.aload_n 0, 1) := by decide +kernel
theorem e111_127 {d : Nat} {l1 l2 l3 : Option Value} {x : Nat} {σ : ab_St} {Q : Option Value → ab_St → Prop} : Ev d 111 127 [some (.ref x), l1, l2, l3] [] σ Q = Ev d 111 128 [some (.ref x), l1, l2, l3] [.ref x] σ Q := ev_A1 d111_127 rfl
theorem d111_128 : decode (ab_C 111) 128 = .ok (.getfield 138, 3) := by decide +kernel
theorem e111_128 {d : Nat} {l0 l1 l2 l3 : Option Value} {s0 : Nat} {σ : ab_St} {Q : Option Value → ab_St → Prop} : Ev d 111 128 [l0, l1, l2, l3] [.ref s0] σ Q = (ab_k s0 = 10 ∧ Ev d 111 131 [l0, l1, l2, l3] [.int (σ.1 s0 7)] σ Q) := ev_Hc (c := ab_k s0 = 10) d111_128 rfl rfl rfl rfl rfl rfl rfl rfl
theorem d111_131 : decode (ab_C 111) 131 = .ok (.ireturn, 1) := by decide +kernel
theorem e111_131 {d : Nat} {l0 l1 l2 l3 : Option Value} {s0 : Int32} {σ : ab_St} {Q : Option Value → ab_St → Prop} : Ev d 111 131 [l0, l1, l2, l3] [.int s0] σ Q = Q (some (.int s0)) σ := ev_E d111_131 rfl rfl rfl rfl rfl rfl rfl
theorem d111_132 : decode (ab_C 111) 132 = .ok (.aload_n 0, 1) := by decide +kernel
theorem e111_132 {d : Nat} {l1 l2 l3 : Option Value} {x : Nat} {σ : ab_St} {Q : Option Value → ab_St → Prop} : Ev d 111 132 [some (.ref x), l1, l2, l3] [] σ Q = Ev d 111 133 [some (.ref x), l1, l2, l3] [.ref x] σ Q := ev_A1 d111_132 rfl
theorem d111_133 : decode (ab_C 111) 133 = .ok (.invokevirtual 161, 3) := by decide +kernel
theorem e111_133 {d : Nat} {l0 l1 l2 l3 : Option Value} {s0 : Nat} {σ : ab_St} {Q : Option Value → ab_St → Prop} : Ev (d + 1) 111 133 [l0, l1, l2, l3] [.ref s0] σ Q = (ab_k s0 = 10 ∧ Ev d 114 0 [some (.ref s0), none, none, none] [] σ (fun r σ2 => Ev (d + 1) 111 136 [l0, l1, l2, l3] (r.toList ++ []) σ2 Q)) := ev_KV (b := s0) (ls := [l0, l1, l2, l3]) (st := [.ref s0]) (as := []) (rest := []) d111_133 rfl rfl rfl (Nat.le_of_ble_eq_true rfl) (Nat.le_of_ble_eq_true rfl) (Nat.le_of_ble_eq_true rfl) rfl rfl rfl rfl rfl rfl rfl
theorem d111_136 : decode (ab_C 111) 136 = .ok (.ireturn, 1) := by decide +kernel
theorem e111_136 {d : Nat} {l0 l1 l2 l3 : Option Value} {s0 : Int32} {σ : ab_St} {Q : Option Value → ab_St → Prop} : Ev d 111 136 [l0, l1, l2, l3] [.int s0] σ Q = Q (some (.int s0)) σ := ev_E d111_136 rfl rfl rfl rfl rfl rfl rfl
theorem d111_137 : decode (ab_C 111) 137 = .ok (.aload_n 0, 1) := by decide +kernel
theorem e111_137 {d : Nat} {l1 l2 l3 : Option Value} {x : Nat} {σ : ab_St} {Q : Option Value → ab_St → Prop} : Ev d 111 137 [some (.ref x), l1, l2, l3] [] σ Q = Ev d 111 138 [some (.ref x), l1, l2, l3] [.ref x] σ Q := ev_A1 d111_137 rfl
theorem d111_138 : decode (ab_C 111) 138 = .ok (.getfield 141, 3) := by decide +kernel
theorem e111_138 {d : Nat} {l0 l1 l2 l3 : Option Value} {s0 : Nat} {σ : ab_St} {Q : Option Value → ab_St → Prop} : Ev d 111 138 [l0, l1, l2, l3] [.ref s0] σ Q = (ab_k s0 = 10 ∧ Ev d 111 141 [l0, l1, l2, l3] [.int (σ.1 s0 13)] σ Q) := ev_Hc (c := ab_k s0 = 10) d111_138 rfl rfl rfl rfl rfl rfl rfl rfl
theorem d111_141 : decode (ab_C 111) 141 = .ok (.ireturn, 1) := by decide +kernel
theorem e111_141 {d : Nat} {l0 l1 l2 l3 : Option Value} {s0 : Int32} {σ : ab_St} {Q : Option Value → ab_St → Prop} : Ev d 111 141 [l0, l1, l2, l3] [.int s0] σ Q = Q (some (.int s0)) σ := ev_E d111_141 rfl rfl rfl rfl rfl rfl rfl
theorem d111_142 : decode (ab_C 111) 142 = .ok (.aload_n 0, 1) := by decide +kernel
theorem e111_142 {d : Nat} {l1 l2 l3 : Option Value} {x : Nat} {σ : ab_St} {Q : Option Value → ab_St → Prop} : Ev d 111 142 [some (.ref x), l1, l2, l3] [] σ Q = Ev d 111 143 [some (.ref x), l1, l2, l3] [.ref x] σ Q := ev_A1 d111_142 rfl
theorem d111_143 : decode (ab_C 111) 143 = .ok (.aload_n 0, 1) := by decide +kernel
theorem e111_143 {d : Nat} {l1 l2 l3 : Option Value} {x : Nat} {s0 : Nat} {σ : ab_St} {Q : Option Value → ab_St → Prop} : Ev d 111 143 [some (.ref x), l1, l2, l3] [.ref s0] σ Q = Ev d 111 144 [some (.ref x), l1, l2, l3] [.ref x, .ref s0] σ Q := ev_A1 d111_143 rfl
theorem d111_144 : decode (ab_C 111) 144 = .ok (.getfield 141, 3) := by decide +kernel
theorem e111_144 {d : Nat} {l0 l1 l2 l3 : Option Value} {s0 : Nat} {s1 : Nat} {σ : ab_St} {Q : Option Value → ab_St → Prop} : Ev d 111 144 [l0, l1, l2, l3] [.ref s0, .ref s1] σ Q = (ab_k s0 = 10 ∧ Ev d 111 147 [l0, l1, l2, l3] [.int (σ.1 s0 13), .ref s1] σ Q) := ev_Hc (c := ab_k s0 = 10) d111_144 rfl rfl rfl rfl rfl rfl rfl rfl
theorem d111_147 : decode (ab_C 111) 147 = .ok (.bipush (-9), 2) := by decide +kernel
theorem e111_147 {d : Nat} {l0 l1 l2 l3 : Option Value} {s0 : Int32} {s1 : Nat} {σ : ab_St} {Q : Option Value → ab_St → Prop} : Ev d 111 147 [l0, l1, l2, l3] [.int s0, .ref s1] σ Q = Ev d 111 149 [l0, l1, l2, l3] [.int (-9), .int s0, .ref s1] σ Q := ev_A1 d111_147 rfl
theorem d111_149 : decode (ab_C 111) 149 = .ok (.invokevirtual 164, 3) := by decide +kernel
theorem e111_149 {d : Nat} {l0 l1 l2 l3 : Option Value} {s0 : Int32} {s1 : Int32} {s2 : Nat} {σ : ab_St} {Q : Option Value → ab_St → Prop} : Ev (d + 1) 111 149 [l0, l1, l2, l3] [.int s0, .int s1, .ref s2] σ Q = (ab_k s2 = 10 ∧ Ev d 115 0 [some (.ref s2), some (.int s1), some (.int s0), none, none] [] σ (fun r σ2 => Ev (d + 1) 111 152 [l0, l1, l2, l3] (r.toList ++ []) σ2 Q)) := ev_KV (b := s2) (ls := [l0, l1, l2, l3]) (st := [.int s0, .int s1, .ref s2]) (as := [.int s1, .int s0]) (rest := []) d111_149 rfl rfl rfl (Nat.le_of_ble_eq_true rfl) (Nat.le_of_ble_eq_true rfl) (Nat.le_of_ble_eq_true rfl) rfl rfl rfl rfl rfl rfl rfl
theorem d111_152 : decode (ab_C 111) 152 = .ok (.ireturn, 1) := by decide +kernel
theorem e111_152 {d : Nat} {l0 l1 l2 l3 : Option Value} {s0 : Int32} {σ : ab_St} {Q : Option Value → ab_St → Prop} : Ev d 111 152 [l0, l1, l2, l3] [.int s0] σ Q = Q (some (.int s0)) σ := ev_E d111_152 rfl rfl rfl rfl rfl rfl rfl
theorem d111_153 : decode (ab_C 111) 153 = .ok (.aload_n 0, 1) := by decide +kernel
theorem e111_153 {d : Nat} {l1 l2 l3 : Option Value} {x : Nat} {σ : ab_St} {Q : Option Value → ab_St → Prop} : Ev d 111 153 [some (.ref x), l1, l2, l3] [] σ Q = Ev d 111 154 [some (.ref x), l1, l2, l3] [.ref x] σ Q := ev_A1 d111_153 rfl
theorem d111_154 : decode (ab_C 111) 154 = .ok (.getfield 144, 3) := by decide +kernel
theorem e111_154 {d : Nat} {l0 l1 l2 l3 : Option Value} {s0 : Nat} {σ : ab_St} {Q : Option Value → ab_St → Prop} : Ev d 111 154 [l0, l1, l2, l3] [.ref s0] σ Q = (ab_k s0 = 10 ∧ Ev d 111 157 [l0, l1, l2, l3] [.int (σ.1 s0 25)] σ Q) := ev_Hc (c := ab_k s0 = 10) d111_154 rfl rfl rfl rfl rfl rfl rfl rfl
theorem d111_157 : decode (ab_C 111) 157 = .ok (.ireturn, 1) := by decide +kernel
theorem e111_157 {d : Nat} {l0 l1 l2 l3 : Option Value} {s0 : Int32} {σ : ab_St} {Q : Option Value → ab_St → Prop} : Ev d 111 157 [l0, l1, l2, l3] [.int s0] σ Q = Q (some (.int s0)) σ := ev_E d111_157 rfl rfl rfl rfl rfl rfl rfl
theorem d111_158 : decode (ab_C 111) 158 = .ok (.iload_n 2, 1) := by decide +kernel
theorem e111_158 {d : Nat} {l0 l1 l3 : Option Value} {x : Int32} {σ : ab_St} {Q : Option Value → ab_St → Prop} : Ev d 111 158 [l0, l1, some (.int x), l3] [] σ Q = Ev d 111 159 [l0, l1, some (.int x), l3] [.int x] σ Q := ev_A1 d111_158 rfl
theorem d111_159 : decode (ab_C 111) 159 = .ok (.ireturn, 1) := by decide +kernel
theorem e111_159 {d : Nat} {l0 l1 l2 l3 : Option Value} {s0 : Int32} {σ : ab_St} {Q : Option Value → ab_St → Prop} : Ev d 111 159 [l0, l1, l2, l3] [.int s0] σ Q = Q (some (.int s0)) σ := ev_E d111_159 rfl rfl rfl rfl rfl rfl rfl
theorem d111_160 : decode (ab_C 111) 160 = .ok (.aload_n 0, 1) := by decide +kernel
theorem e111_160 {d : Nat} {l1 l2 l3 : Option Value} {x : Nat} {σ : ab_St} {Q : Option Value → ab_St → Prop} : Ev d 111 160 [some (.ref x), l1, l2, l3] [] σ Q = Ev d 111 161 [some (.ref x), l1, l2, l3] [.ref x] σ Q := ev_A1 d111_160 rfl
theorem d111_161 : decode (ab_C 111) 161 = .ok (.getfield 28, 3) := by decide +kernel
theorem e111_161 {d : Nat} {l0 l1 l2 l3 : Option Value} {s0 : Nat} {σ : ab_St} {Q : Option Value → ab_St → Prop} : Ev d 111 161 [l0, l1, l2, l3] [.ref s0] σ Q = (ab_k s0 = 10 ∧ Ev d 111 164 [l0, l1, l2, l3] [.int (σ.1 s0 14)] σ Q) := ev_Hc (c := ab_k s0 = 10) d111_161 rfl rfl rfl rfl rfl rfl rfl rfl
theorem d111_164 : decode (ab_C 111) 164 = .ok (.ireturn, 1) := by decide +kernel
theorem e111_164 {d : Nat} {l0 l1 l2 l3 : Option Value} {s0 : Int32} {σ : ab_St} {Q : Option Value → ab_St → Prop} : Ev d 111 164 [l0, l1, l2, l3] [.int s0] σ Q = Q (some (.int s0)) σ := ev_E d111_164 rfl rfl rfl rfl rfl rfl rfl
theorem d111_165 : decode (ab_C 111) 165 = .ok (.aload_n 0, 1) := by decide +kernel
theorem e111_165 {d : Nat} {l1 l2 l3 : Option Value} {x : Nat} {σ : ab_St} {Q : Option Value → ab_St → Prop} : Ev d 111 165 [some (.ref x), l1, l2, l3] [] σ Q = Ev d 111 166 [some (.ref x), l1, l2, l3] [.ref x] σ Q := ev_A1 d111_165 rfl
theorem d111_166 : decode (ab_C 111) 166 = .ok (.getfield 94, 3) := by decide +kernel
theorem e111_166 {d : Nat} {l0 l1 l2 l3 : Option Value} {s0 : Nat} {σ : ab_St} {Q : Option Value → ab_St → Prop} : Ev d 111 166 [l0, l1, l2, l3] [.ref s0] σ Q = (ab_k s0 = 10 ∧ Ev d 111 169 [l0, l1, l2, l3] [.int (σ.1 s0 2)] σ Q) := ev_Hc (c := ab_k s0 = 10) d111_166 rfl rfl rfl rfl rfl rfl rfl rfl
theorem d111_169 : decode (ab_C 111) 169 = .ok (.ireturn, 1) := by decide +kernel
theorem e111_169 {d : Nat} {l0 l1 l2 l3 : Option Value} {s0 : Int32} {σ : ab_St} {Q : Option Value → ab_St → Prop} : Ev d 111 169 [l0, l1, l2, l3] [.int s0] σ Q = Q (some (.int s0)) σ := ev_E d111_169 rfl rfl rfl rfl rfl rfl rfl
theorem d111_170 : decode (ab_C 111) 170 = .ok (.bipush (-2), 2) := by decide +kernel
theorem e111_170 {d : Nat} {l0 l1 l2 l3 : Option Value} {σ : ab_St} {Q : Option Value → ab_St → Prop} : Ev d 111 170 [l0, l1, l2, l3] [] σ Q = Ev d 111 172 [l0, l1, l2, l3] [.int (-2)] σ Q := ev_A1 d111_170 rfl
theorem d111_172 : decode (ab_C 111) 172 = .ok (.ireturn, 1) := by decide +kernel
theorem e111_172 {d : Nat} {l0 l1 l2 l3 : Option Value} {s0 : Int32} {σ : ab_St} {Q : Option Value → ab_St → Prop} : Ev d 111 172 [l0, l1, l2, l3] [.int s0] σ Q = Q (some (.int s0)) σ := ev_E d111_172 rfl rfl rfl rfl rfl rfl rfl
/-! SaidLeastModel.begin()V -/
theorem d112_0 : decode (ab_C 112) 0 = .ok (.iconst 0, 1) := by decide +kernel
theorem e112_0 {d : Nat} {l0 l1 : Option Value} {σ : ab_St} {Q : Option Value → ab_St → Prop} : Ev d 112 0 [l0, l1] [] σ Q = Ev d 112 1 [l0, l1] [.int 0] σ Q := ev_A1 d112_0 rfl
theorem d112_1 : decode (ab_C 112) 1 = .ok (.istore_n 1, 1) := by decide +kernel
theorem e112_1 {d : Nat} {l0 l1 : Option Value} {s0 : Int32} {σ : ab_St} {Q : Option Value → ab_St → Prop} : Ev d 112 1 [l0, l1] [.int s0] σ Q = Ev d 112 2 [l0, some (.int s0)] [] σ Q := ev_S d112_1 rfl rfl rfl rfl
theorem d112_2 : decode (ab_C 112) 2 = .ok (.iload_n 1, 1) := by decide +kernel
theorem e112_2 {d : Nat} {l0 : Option Value} {x : Int32} {σ : ab_St} {Q : Option Value → ab_St → Prop} : Ev d 112 2 [l0, some (.int x)] [] σ Q = Ev d 112 3 [l0, some (.int x)] [.int x] σ Q := ev_A1 d112_2 rfl
theorem d112_3 : decode (ab_C 112) 3 = .ok (.aload_n 0, 1) := by decide +kernel
theorem e112_3 {d : Nat} {l1 : Option Value} {x : Nat} {s0 : Int32} {σ : ab_St} {Q : Option Value → ab_St → Prop} : Ev d 112 3 [some (.ref x), l1] [.int s0] σ Q = Ev d 112 4 [some (.ref x), l1] [.ref x, .int s0] σ Q := ev_A1 d112_3 rfl
theorem d112_4 : decode (ab_C 112) 4 = .ok (.getfield 82, 3) := by decide +kernel
theorem e112_4 {d : Nat} {l0 l1 : Option Value} {s0 : Nat} {s1 : Int32} {σ : ab_St} {Q : Option Value → ab_St → Prop} : Ev d 112 4 [l0, l1] [.ref s0, .int s1] σ Q = (ab_k s0 = 10 ∧ Ev d 112 7 [l0, l1] [.int (σ.1 s0 5), .int s1] σ Q) := ev_Hc (c := ab_k s0 = 10) d112_4 rfl rfl rfl rfl rfl rfl rfl rfl
theorem d112_7 : decode (ab_C 112) 7 = .ok (.if_icmp .ge 21, 3) := by decide +kernel
theorem e112_7 {d : Nat} {l0 l1 : Option Value} {s0 : Int32} {s1 : Int32} {σ : ab_St} {Q : Option Value → ab_St → Prop} : Ev d 112 7 [l0, l1] [.int s0, .int s1] σ Q = if s0 ≤ s1 then Ev d 112 28 [l0, l1] [] σ Q else Ev d 112 10 [l0, l1] [] σ Q := ev_B (c := s0 ≤ s1) d112_7 rfl rfl rfl rfl rfl
theorem d112_10 : decode (ab_C 112) 10 = .ok (.aload_n 0, 1) := by decide +kernel
theorem e112_10 {d : Nat} {l1 : Option Value} {x : Nat} {σ : ab_St} {Q : Option Value → ab_St → Prop} : Ev d 112 10 [some (.ref x), l1] [] σ Q = Ev d 112 11 [some (.ref x), l1] [.ref x] σ Q := ev_A1 d112_10 rfl
theorem d112_11 : decode (ab_C 112) 11 = .ok (.getfield 57, 3) := by decide +kernel
theorem e112_11 {d : Nat} {l0 l1 : Option Value} {s0 : Nat} {σ : ab_St} {Q : Option Value → ab_St → Prop} : Ev d 112 11 [l0, l1] [.ref s0] σ Q = (ab_k s0 = 10 ∧ Ev d 112 14 [l0, l1] [.ref (ab_r s0 28)] σ Q) := ev_Hc (c := ab_k s0 = 10) d112_11 rfl rfl rfl rfl rfl rfl rfl rfl
theorem d112_14 : decode (ab_C 112) 14 = .ok (.iload_n 1, 1) := by decide +kernel
theorem e112_14 {d : Nat} {l0 : Option Value} {x : Int32} {s0 : Nat} {σ : ab_St} {Q : Option Value → ab_St → Prop} : Ev d 112 14 [l0, some (.int x)] [.ref s0] σ Q = Ev d 112 15 [l0, some (.int x)] [.int x, .ref s0] σ Q := ev_A1 d112_14 rfl
theorem d112_15 : decode (ab_C 112) 15 = .ok (.aload_n 0, 1) := by decide +kernel
theorem e112_15 {d : Nat} {l1 : Option Value} {x : Nat} {s0 : Int32} {s1 : Nat} {σ : ab_St} {Q : Option Value → ab_St → Prop} : Ev d 112 15 [some (.ref x), l1] [.int s0, .ref s1] σ Q = Ev d 112 16 [some (.ref x), l1] [.ref x, .int s0, .ref s1] σ Q := ev_A1 d112_15 rfl
theorem d112_16 : decode (ab_C 112) 16 = .ok (.getfield 13, 3) := by decide +kernel
theorem e112_16 {d : Nat} {l0 l1 : Option Value} {s0 : Nat} {s1 : Int32} {s2 : Nat} {σ : ab_St} {Q : Option Value → ab_St → Prop} : Ev d 112 16 [l0, l1] [.ref s0, .int s1, .ref s2] σ Q = (ab_k s0 = 10 ∧ Ev d 112 19 [l0, l1] [.ref (ab_r s0 6), .int s1, .ref s2] σ Q) := ev_Hc (c := ab_k s0 = 10) d112_16 rfl rfl rfl rfl rfl rfl rfl rfl
theorem d112_19 : decode (ab_C 112) 19 = .ok (.iload_n 1, 1) := by decide +kernel
theorem e112_19 {d : Nat} {l0 : Option Value} {x : Int32} {s0 : Nat} {s1 : Int32} {s2 : Nat} {σ : ab_St} {Q : Option Value → ab_St → Prop} : Ev d 112 19 [l0, some (.int x)] [.ref s0, .int s1, .ref s2] σ Q = Ev d 112 20 [l0, some (.int x)] [.int x, .ref s0, .int s1, .ref s2] σ Q := ev_A1 d112_19 rfl
theorem d112_20 : decode (ab_C 112) 20 = .ok (.iaload, 1) := by decide +kernel
theorem e112_20 {d : Nat} {l0 l1 : Option Value} {s0 : Int32} {s1 : Nat} {s2 : Int32} {s3 : Nat} {σ : ab_St} {Q : Option Value → ab_St → Prop} : Ev d 112 20 [l0, l1] [.int s0, .ref s1, .int s2, .ref s3] σ Q = ((ab_k s1 = 100 ∧ ab_in s0 (ab_n s1)) ∧ Ev d 112 21 [l0, l1] [.int (σ.1 s1 s0.toNatClampNeg), .int s2, .ref s3] σ Q) := ev_Hc (c := ab_k s1 = 100 ∧ ab_in s0 (ab_n s1)) d112_20 rfl rfl rfl rfl rfl rfl rfl rfl
theorem d112_21 : decode (ab_C 112) 21 = .ok (.iastore, 1) := by decide +kernel
theorem e112_21 {d : Nat} {l0 l1 : Option Value} {s0 : Int32} {s1 : Int32} {s2 : Nat} {σ : ab_St} {Q : Option Value → ab_St → Prop} : Ev d 112 21 [l0, l1] [.int s0, .int s1, .ref s2] σ Q = ((ab_k s2 = 100 ∧ ab_in s1 (ab_n s2)) ∧ Ev d 112 22 [l0, l1] [] (ab_wI σ s2 (upd (σ.1 s2) s1.toNatClampNeg s0)) Q) := ev_Hc (c := ab_k s2 = 100 ∧ ab_in s1 (ab_n s2)) d112_21 rfl rfl rfl rfl rfl rfl rfl rfl
theorem d112_22 : decode (ab_C 112) 22 = .ok (.iinc 1 1, 3) := by decide +kernel
theorem e112_22 {d : Nat} {l0 : Option Value} {x : Int32} {σ : ab_St} {Q : Option Value → ab_St → Prop} : Ev d 112 22 [l0, some (.int x)] [] σ Q = Ev d 112 25 [l0, some (.int (x + 1))] [] σ Q := ev_S d112_22 rfl rfl rfl rfl
theorem d112_25 : decode (ab_C 112) 25 = .ok (.goto (-23), 3) := by decide +kernel
theorem e112_25 {d : Nat} {l0 l1 : Option Value} {σ : ab_St} {Q : Option Value → ab_St → Prop} : Ev d 112 25 [l0, l1] [] σ Q = Ev d 112 2 [l0, l1] [] σ Q := ev_J d112_25 rfl rfl rfl rfl rfl
theorem d112_28 : decode (ab_C 112) 28 = .ok (.aload_n 0, 1) := by decide +kernel
theorem e112_28 {d : Nat} {l1 : Option Value} {x : Nat} {σ : ab_St} {Q : Option Value → ab_St → Prop} : Ev d 112 28 [some (.ref x), l1] [] σ Q = Ev d 112 29 [some (.ref x), l1] [.ref x] σ Q := ev_A1 d112_28 rfl
theorem d112_29 : decode (ab_C 112) 29 = .ok (.aload_n 0, 1) := by decide +kernel
theorem e112_29 {d : Nat} {l1 : Option Value} {x : Nat} {s0 : Nat} {σ : ab_St} {Q : Option Value → ab_St → Prop} : Ev d 112 29 [some (.ref x), l1] [.ref s0] σ Q = Ev d 112 30 [some (.ref x), l1] [.ref x, .ref s0] σ Q := ev_A1 d112_29 rfl
theorem d112_30 : decode (ab_C 112) 30 = .ok (.getfield 141, 3) := by decide +kernel
theorem e112_30 {d : Nat} {l0 l1 : Option Value} {s0 : Nat} {s1 : Nat} {σ : ab_St} {Q : Option Value → ab_St → Prop} : Ev d 112 30 [l0, l1] [.ref s0, .ref s1] σ Q = (ab_k s0 = 10 ∧ Ev d 112 33 [l0, l1] [.int (σ.1 s0 13), .ref s1] σ Q) := ev_Hc (c := ab_k s0 = 10) d112_30 rfl rfl rfl rfl rfl rfl rfl rfl
theorem d112_33 : decode (ab_C 112) 33 = .ok (.putfield 147, 3) := by decide +kernel
theorem e112_33 {d : Nat} {l0 l1 : Option Value} {s0 : Int32} {s1 : Nat} {σ : ab_St} {Q : Option Value → ab_St → Prop} : Ev d 112 33 [l0, l1] [.int s0, .ref s1] σ Q = (ab_k s1 = 10 ∧ Ev d 112 36 [l0, l1] [] (ab_wI σ s1 (upd (σ.1 s1) 29 s0)) Q) := ev_Hc (c := ab_k s1 = 10) d112_33 rfl rfl rfl rfl rfl rfl rfl rfl
theorem d112_36 : decode (ab_C 112) 36 = .ok (.aload_n 0, 1) := by decide +kernel
theorem e112_36 {d : Nat} {l1 : Option Value} {x : Nat} {σ : ab_St} {Q : Option Value → ab_St → Prop} : Ev d 112 36 [some (.ref x), l1] [] σ Q = Ev d 112 37 [some (.ref x), l1] [.ref x] σ Q := ev_A1 d112_36 rfl
theorem d112_37 : decode (ab_C 112) 37 = .ok (.aload_n 0, 1) := by decide +kernel
theorem e112_37 {d : Nat} {l1 : Option Value} {x : Nat} {s0 : Nat} {σ : ab_St} {Q : Option Value → ab_St → Prop} : Ev d 112 37 [some (.ref x), l1] [.ref s0] σ Q = Ev d 112 38 [some (.ref x), l1] [.ref x, .ref s0] σ Q := ev_A1 d112_37 rfl
theorem d112_38 : decode (ab_C 112) 38 = .ok (.getfield 28, 3) := by decide +kernel
theorem e112_38 {d : Nat} {l0 l1 : Option Value} {s0 : Nat} {s1 : Nat} {σ : ab_St} {Q : Option Value → ab_St → Prop} : Ev d 112 38 [l0, l1] [.ref s0, .ref s1] σ Q = (ab_k s0 = 10 ∧ Ev d 112 41 [l0, l1] [.int (σ.1 s0 14), .ref s1] σ Q) := ev_Hc (c := ab_k s0 = 10) d112_38 rfl rfl rfl rfl rfl rfl rfl rfl
theorem d112_41 : decode (ab_C 112) 41 = .ok (.putfield 150, 3) := by decide +kernel
theorem e112_41 {d : Nat} {l0 l1 : Option Value} {s0 : Int32} {s1 : Nat} {σ : ab_St} {Q : Option Value → ab_St → Prop} : Ev d 112 41 [l0, l1] [.int s0, .ref s1] σ Q = (ab_k s1 = 10 ∧ Ev d 112 44 [l0, l1] [] (ab_wI σ s1 (upd (σ.1 s1) 30 s0)) Q) := ev_Hc (c := ab_k s1 = 10) d112_41 rfl rfl rfl rfl rfl rfl rfl rfl
theorem d112_44 : decode (ab_C 112) 44 = .ok (.return_, 1) := by decide +kernel
theorem e112_44 {d : Nat} {l0 l1 : Option Value} {σ : ab_St} {Q : Option Value → ab_St → Prop} : Ev d 112 44 [l0, l1] [] σ Q = Q none σ := ev_E d112_44 rfl rfl rfl rfl rfl rfl rfl
/-! SaidLeastModel.has(II)Z -/
theorem d113_0 : decode (ab_C 113) 0 = .ok (.iload_n 0, 1) := by decide +kernel
theorem e113_0 {d : Nat} {l1 : Option Value} {x : Int32} {σ : ab_St} {Q : Option Value → ab_St → Prop} : Ev d 113 0 [some (.int x), l1] [] σ Q = Ev d 113 1 [some (.int x), l1] [.int x] σ Q := ev_A1 d113_0 rfl
theorem d113_1 : decode (ab_C 113) 1 = .ok (.iload_n 1, 1) := by decide +kernel
theorem e113_1 {d : Nat} {l0 : Option Value} {x : Int32} {s0 : Int32} {σ : ab_St} {Q : Option Value → ab_St → Prop} : Ev d 113 1 [l0, some (.int x)] [.int s0] σ Q = Ev d 113 2 [l0, some (.int x)] [.int x, .int s0] σ Q := ev_A1 d113_1 rfl
theorem d113_2 : decode (ab_C 113) 2 = .ok (.ishr, 1) := by decide +kernel
theorem e113_2 {d : Nat} {l0 l1 : Option Value} {s0 : Int32} {s1 : Int32} {σ : ab_St} {Q : Option Value → ab_St → Prop} : Ev d 113 2 [l0, l1] [.int s0, .int s1] σ Q = Ev d 113 3 [l0, l1] [.int (s1 >>> (s0 &&& 31))] σ Q := ev_A2 d113_2 rfl rfl
theorem d113_3 : decode (ab_C 113) 3 = .ok (.iconst 1, 1) := by decide +kernel
theorem e113_3 {d : Nat} {l0 l1 : Option Value} {s0 : Int32} {σ : ab_St} {Q : Option Value → ab_St → Prop} : Ev d 113 3 [l0, l1] [.int s0] σ Q = Ev d 113 4 [l0, l1] [.int 1, .int s0] σ Q := ev_A1 d113_3 rfl
theorem d113_4 : decode (ab_C 113) 4 = .ok (.iand, 1) := by decide +kernel
theorem e113_4 {d : Nat} {l0 l1 : Option Value} {s0 : Int32} {s1 : Int32} {σ : ab_St} {Q : Option Value → ab_St → Prop} : Ev d 113 4 [l0, l1] [.int s0, .int s1] σ Q = Ev d 113 5 [l0, l1] [.int (s1 &&& s0)] σ Q := ev_A2 d113_4 rfl rfl
theorem d113_5 : decode (ab_C 113) 5 = .ok (.iconst 1, 1) := by decide +kernel
theorem e113_5 {d : Nat} {l0 l1 : Option Value} {s0 : Int32} {σ : ab_St} {Q : Option Value → ab_St → Prop} : Ev d 113 5 [l0, l1] [.int s0] σ Q = Ev d 113 6 [l0, l1] [.int 1, .int s0] σ Q := ev_A1 d113_5 rfl
theorem d113_6 : decode (ab_C 113) 6 = .ok (.if_icmp .ne 7, 3) := by decide +kernel
theorem e113_6 {d : Nat} {l0 l1 : Option Value} {s0 : Int32} {s1 : Int32} {σ : ab_St} {Q : Option Value → ab_St → Prop} : Ev d 113 6 [l0, l1] [.int s0, .int s1] σ Q = if s1 = s0 then Ev d 113 9 [l0, l1] [] σ Q else Ev d 113 13 [l0, l1] [] σ Q := ev_B (c := s1 = s0) d113_6 rfl rfl rfl rfl rfl
theorem d113_9 : decode (ab_C 113) 9 = .ok (.iconst 1, 1) := by decide +kernel
theorem e113_9 {d : Nat} {l0 l1 : Option Value} {σ : ab_St} {Q : Option Value → ab_St → Prop} : Ev d 113 9 [l0, l1] [] σ Q = Ev d 113 10 [l0, l1] [.int 1] σ Q := ev_A1 d113_9 rfl
theorem d113_10 : decode (ab_C 113) 10 = .ok (.goto 4, 3) := by decide +kernel
theorem e113_10 {d : Nat} {l0 l1 : Option Value} {s0 : Int32} {σ : ab_St} {Q : Option Value → ab_St → Prop} : Ev d 113 10 [l0, l1] [.int s0] σ Q = Ev d 113 14 [l0, l1] [.int s0] σ Q := ev_J d113_10 rfl rfl rfl rfl rfl
theorem d113_13 : decode (ab_C 113) 13 = .ok (.iconst 0, 1) := by decide +kernel
theorem e113_13 {d : Nat} {l0 l1 : Option Value} {σ : ab_St} {Q : Option Value → ab_St → Prop} : Ev d 113 13 [l0, l1] [] σ Q = Ev d 113 14 [l0, l1] [.int 0] σ Q := ev_A1 d113_13 rfl
theorem d113_14 : decode (ab_C 113) 14 = .ok (.ireturn, 1) := by decide +kernel
theorem e113_14 {d : Nat} {l0 l1 : Option Value} {s0 : Int32} {σ : ab_St} {Q : Option Value → ab_St → Prop} : Ev d 113 14 [l0, l1] [.int s0] σ Q = ((s0 = 0 ∨ s0 = 1) ∧ Q (some (.int s0)) σ) := ev_Z d113_14 rfl
/-! SaidLeastModel.leastSet()I -/
theorem d114_0 : decode (ab_C 114) 0 = .ok (.ldc 153, 2) := by decide +kernel
theorem e114_0 {d : Nat} {l0 l1 l2 l3 : Option Value} {σ : ab_St} {Q : Option Value → ab_St → Prop} : Ev d 114 0 [l0, l1, l2, l3] [] σ Q = Ev d 114 2 [l0, l1, l2, l3] [.int 99999] σ Q := ev_A1 d114_0 rfl
theorem d114_2 : decode (ab_C 114) 2 = .ok (.istore_n 1, 1) := by decide +kernel
theorem e114_2 {d : Nat} {l0 l1 l2 l3 : Option Value} {s0 : Int32} {σ : ab_St} {Q : Option Value → ab_St → Prop} : Ev d 114 2 [l0, l1, l2, l3] [.int s0] σ Q = Ev d 114 3 [l0, some (.int s0), l2, l3] [] σ Q := ev_S d114_2 rfl rfl rfl rfl
theorem d114_3 : decode (ab_C 114) 3 = .ok (.iconst 0, 1) := by decide +kernel
theorem e114_3 {d : Nat} {l0 l1 l2 l3 : Option Value} {σ : ab_St} {Q : Option Value → ab_St → Prop} : Ev d 114 3 [l0, l1, l2, l3] [] σ Q = Ev d 114 4 [l0, l1, l2, l3] [.int 0] σ Q := ev_A1 d114_3 rfl
theorem d114_4 : decode (ab_C 114) 4 = .ok (.istore_n 2, 1) := by decide +kernel
theorem e114_4 {d : Nat} {l0 l1 l2 l3 : Option Value} {s0 : Int32} {σ : ab_St} {Q : Option Value → ab_St → Prop} : Ev d 114 4 [l0, l1, l2, l3] [.int s0] σ Q = Ev d 114 5 [l0, l1, some (.int s0), l3] [] σ Q := ev_S d114_4 rfl rfl rfl rfl
theorem d114_5 : decode (ab_C 114) 5 = .ok (.iload_n 2, 1) := by decide +kernel
theorem e114_5 {d : Nat} {l0 l1 l3 : Option Value} {x : Int32} {σ : ab_St} {Q : Option Value → ab_St → Prop} : Ev d 114 5 [l0, l1, some (.int x), l3] [] σ Q = Ev d 114 6 [l0, l1, some (.int x), l3] [.int x] σ Q := ev_A1 d114_5 rfl
theorem d114_6 : decode (ab_C 114) 6 = .ok (.aload_n 0, 1) := by decide +kernel
theorem e114_6 {d : Nat} {l1 l2 l3 : Option Value} {x : Nat} {s0 : Int32} {σ : ab_St} {Q : Option Value → ab_St → Prop} : Ev d 114 6 [some (.ref x), l1, l2, l3] [.int s0] σ Q = Ev d 114 7 [some (.ref x), l1, l2, l3] [.ref x, .int s0] σ Q := ev_A1 d114_6 rfl
theorem d114_7 : decode (ab_C 114) 7 = .ok (.getfield 82, 3) := by decide +kernel
theorem e114_7 {d : Nat} {l0 l1 l2 l3 : Option Value} {s0 : Nat} {s1 : Int32} {σ : ab_St} {Q : Option Value → ab_St → Prop} : Ev d 114 7 [l0, l1, l2, l3] [.ref s0, .int s1] σ Q = (ab_k s0 = 10 ∧ Ev d 114 10 [l0, l1, l2, l3] [.int (σ.1 s0 5), .int s1] σ Q) := ev_Hc (c := ab_k s0 = 10) d114_7 rfl rfl rfl rfl rfl rfl rfl rfl
theorem d114_10 : decode (ab_C 114) 10 = .ok (.if_icmp .ge 41, 3) := by decide +kernel
theorem e114_10 {d : Nat} {l0 l1 l2 l3 : Option Value} {s0 : Int32} {s1 : Int32} {σ : ab_St} {Q : Option Value → ab_St → Prop} : Ev d 114 10 [l0, l1, l2, l3] [.int s0, .int s1] σ Q = if s0 ≤ s1 then Ev d 114 51 [l0, l1, l2, l3] [] σ Q else Ev d 114 13 [l0, l1, l2, l3] [] σ Q := ev_B (c := s0 ≤ s1) d114_10 rfl rfl rfl rfl rfl
theorem d114_13 : decode (ab_C 114) 13 = .ok (.aload_n 0, 1) := by decide +kernel
theorem e114_13 {d : Nat} {l1 l2 l3 : Option Value} {x : Nat} {σ : ab_St} {Q : Option Value → ab_St → Prop} : Ev d 114 13 [some (.ref x), l1, l2, l3] [] σ Q = Ev d 114 14 [some (.ref x), l1, l2, l3] [.ref x] σ Q := ev_A1 d114_13 rfl
theorem d114_14 : decode (ab_C 114) 14 = .ok (.getfield 138, 3) := by decide +kernel
theorem e114_14 {d : Nat} {l0 l1 l2 l3 : Option Value} {s0 : Nat} {σ : ab_St} {Q : Option Value → ab_St → Prop} : Ev d 114 14 [l0, l1, l2, l3] [.ref s0] σ Q = (ab_k s0 = 10 ∧ Ev d 114 17 [l0, l1, l2, l3] [.int (σ.1 s0 7)] σ Q) := ev_Hc (c := ab_k s0 = 10) d114_14 rfl rfl rfl rfl rfl rfl rfl rfl
theorem d114_17 : decode (ab_C 114) 17 = .ok (.iload_n 2, 1) := by decide +kernel
theorem e114_17 {d : Nat} {l0 l1 l3 : Option Value} {x : Int32} {s0 : Int32} {σ : ab_St} {Q : Option Value → ab_St → Prop} : Ev d 114 17 [l0, l1, some (.int x), l3] [.int s0] σ Q = Ev d 114 18 [l0, l1, some (.int x), l3] [.int x, .int s0] σ Q := ev_A1 d114_17 rfl
theorem d114_18 : decode (ab_C 114) 18 = .ok (.invokestatic 154, 3) := by decide +kernel
theorem e114_18 {d : Nat} {l0 l1 l2 l3 : Option Value} {s0 : Int32} {s1 : Int32} {σ : ab_St} {Q : Option Value → ab_St → Prop} : Ev (d + 1) 114 18 [l0, l1, l2, l3] [.int s0, .int s1] σ Q = Ev d 113 0 [some (.int s1), some (.int s0)] [] σ (fun r σ2 => Ev (d + 1) 114 21 [l0, l1, l2, l3] (r.toList ++ []) σ2 Q) := ev_K0 (y := 113) (ls := [l0, l1, l2, l3]) (st := [.int s0, .int s1]) (as := [.int s1, .int s0]) (rest := []) d114_18 rfl rfl rfl rfl rfl rfl rfl rfl
theorem d114_21 : decode (ab_C 114) 21 = .ok (.ifCond .eq 22, 3) := by decide +kernel
theorem e114_21 {d : Nat} {l0 l1 l2 l3 : Option Value} {s0 : Int32} {σ : ab_St} {Q : Option Value → ab_St → Prop} : Ev d 114 21 [l0, l1, l2, l3] [.int s0] σ Q = if s0 = 0 then Ev d 114 43 [l0, l1, l2, l3] [] σ Q else Ev d 114 24 [l0, l1, l2, l3] [] σ Q := ev_B (c := s0 = 0) d114_21 rfl rfl rfl rfl rfl
theorem d114_24 : decode (ab_C 114) 24 = .ok (.aload_n 0, 1) := by decide +kernel
theorem e114_24 {d : Nat} {l1 l2 l3 : Option Value} {x : Nat} {σ : ab_St} {Q : Option Value → ab_St → Prop} : Ev d 114 24 [some (.ref x), l1, l2, l3] [] σ Q = Ev d 114 25 [some (.ref x), l1, l2, l3] [.ref x] σ Q := ev_A1 d114_24 rfl
theorem d114_25 : decode (ab_C 114) 25 = .ok (.getfield 57, 3) := by decide +kernel
theorem e114_25 {d : Nat} {l0 l1 l2 l3 : Option Value} {s0 : Nat} {σ : ab_St} {Q : Option Value → ab_St → Prop} : Ev d 114 25 [l0, l1, l2, l3] [.ref s0] σ Q = (ab_k s0 = 10 ∧ Ev d 114 28 [l0, l1, l2, l3] [.ref (ab_r s0 28)] σ Q) := ev_Hc (c := ab_k s0 = 10) d114_25 rfl rfl rfl rfl rfl rfl rfl rfl
theorem d114_28 : decode (ab_C 114) 28 = .ok (.iload_n 2, 1) := by decide +kernel
theorem e114_28 {d : Nat} {l0 l1 l3 : Option Value} {x : Int32} {s0 : Nat} {σ : ab_St} {Q : Option Value → ab_St → Prop} : Ev d 114 28 [l0, l1, some (.int x), l3] [.ref s0] σ Q = Ev d 114 29 [l0, l1, some (.int x), l3] [.int x, .ref s0] σ Q := ev_A1 d114_28 rfl
theorem d114_29 : decode (ab_C 114) 29 = .ok (.iaload, 1) := by decide +kernel
theorem e114_29 {d : Nat} {l0 l1 l2 l3 : Option Value} {s0 : Int32} {s1 : Nat} {σ : ab_St} {Q : Option Value → ab_St → Prop} : Ev d 114 29 [l0, l1, l2, l3] [.int s0, .ref s1] σ Q = ((ab_k s1 = 100 ∧ ab_in s0 (ab_n s1)) ∧ Ev d 114 30 [l0, l1, l2, l3] [.int (σ.1 s1 s0.toNatClampNeg)] σ Q) := ev_Hc (c := ab_k s1 = 100 ∧ ab_in s0 (ab_n s1)) d114_29 rfl rfl rfl rfl rfl rfl rfl rfl
theorem d114_30 : decode (ab_C 114) 30 = .ok (.iload_n 1, 1) := by decide +kernel
theorem e114_30 {d : Nat} {l0 l2 l3 : Option Value} {x : Int32} {s0 : Int32} {σ : ab_St} {Q : Option Value → ab_St → Prop} : Ev d 114 30 [l0, some (.int x), l2, l3] [.int s0] σ Q = Ev d 114 31 [l0, some (.int x), l2, l3] [.int x, .int s0] σ Q := ev_A1 d114_30 rfl
theorem d114_31 : decode (ab_C 114) 31 = .ok (.if_icmp .ge 12, 3) := by decide +kernel
theorem e114_31 {d : Nat} {l0 l1 l2 l3 : Option Value} {s0 : Int32} {s1 : Int32} {σ : ab_St} {Q : Option Value → ab_St → Prop} : Ev d 114 31 [l0, l1, l2, l3] [.int s0, .int s1] σ Q = if s0 ≤ s1 then Ev d 114 43 [l0, l1, l2, l3] [] σ Q else Ev d 114 34 [l0, l1, l2, l3] [] σ Q := ev_B (c := s0 ≤ s1) d114_31 rfl rfl rfl rfl rfl
theorem d114_34 : decode (ab_C 114) 34 = .ok (.aload_n 0, 1) := by decide +kernel
theorem e114_34 {d : Nat} {l1 l2 l3 : Option Value} {x : Nat} {σ : ab_St} {Q : Option Value → ab_St → Prop} : Ev d 114 34 [some (.ref x), l1, l2, l3] [] σ Q = Ev d 114 35 [some (.ref x), l1, l2, l3] [.ref x] σ Q := ev_A1 d114_34 rfl
theorem d114_35 : decode (ab_C 114) 35 = .ok (.getfield 57, 3) := by decide +kernel
theorem e114_35 {d : Nat} {l0 l1 l2 l3 : Option Value} {s0 : Nat} {σ : ab_St} {Q : Option Value → ab_St → Prop} : Ev d 114 35 [l0, l1, l2, l3] [.ref s0] σ Q = (ab_k s0 = 10 ∧ Ev d 114 38 [l0, l1, l2, l3] [.ref (ab_r s0 28)] σ Q) := ev_Hc (c := ab_k s0 = 10) d114_35 rfl rfl rfl rfl rfl rfl rfl rfl
theorem d114_38 : decode (ab_C 114) 38 = .ok (.iload_n 2, 1) := by decide +kernel
theorem e114_38 {d : Nat} {l0 l1 l3 : Option Value} {x : Int32} {s0 : Nat} {σ : ab_St} {Q : Option Value → ab_St → Prop} : Ev d 114 38 [l0, l1, some (.int x), l3] [.ref s0] σ Q = Ev d 114 39 [l0, l1, some (.int x), l3] [.int x, .ref s0] σ Q := ev_A1 d114_38 rfl
theorem d114_39 : decode (ab_C 114) 39 = .ok (.iaload, 1) := by decide +kernel
theorem e114_39 {d : Nat} {l0 l1 l2 l3 : Option Value} {s0 : Int32} {s1 : Nat} {σ : ab_St} {Q : Option Value → ab_St → Prop} : Ev d 114 39 [l0, l1, l2, l3] [.int s0, .ref s1] σ Q = ((ab_k s1 = 100 ∧ ab_in s0 (ab_n s1)) ∧ Ev d 114 40 [l0, l1, l2, l3] [.int (σ.1 s1 s0.toNatClampNeg)] σ Q) := ev_Hc (c := ab_k s1 = 100 ∧ ab_in s0 (ab_n s1)) d114_39 rfl rfl rfl rfl rfl rfl rfl rfl
theorem d114_40 : decode (ab_C 114) 40 = .ok (.goto 4, 3) := by decide +kernel
theorem e114_40 {d : Nat} {l0 l1 l2 l3 : Option Value} {s0 : Int32} {σ : ab_St} {Q : Option Value → ab_St → Prop} : Ev d 114 40 [l0, l1, l2, l3] [.int s0] σ Q = Ev d 114 44 [l0, l1, l2, l3] [.int s0] σ Q := ev_J d114_40 rfl rfl rfl rfl rfl
theorem d114_43 : decode (ab_C 114) 43 = .ok (.iload_n 1, 1) := by decide +kernel
theorem e114_43 {d : Nat} {l0 l2 l3 : Option Value} {x : Int32} {σ : ab_St} {Q : Option Value → ab_St → Prop} : Ev d 114 43 [l0, some (.int x), l2, l3] [] σ Q = Ev d 114 44 [l0, some (.int x), l2, l3] [.int x] σ Q := ev_A1 d114_43 rfl
theorem d114_44 : decode (ab_C 114) 44 = .ok (.istore_n 1, 1) := by decide +kernel
theorem e114_44 {d : Nat} {l0 l1 l2 l3 : Option Value} {s0 : Int32} {σ : ab_St} {Q : Option Value → ab_St → Prop} : Ev d 114 44 [l0, l1, l2, l3] [.int s0] σ Q = Ev d 114 45 [l0, some (.int s0), l2, l3] [] σ Q := ev_S d114_44 rfl rfl rfl rfl
theorem d114_45 : decode (ab_C 114) 45 = .ok (.iinc 2 1, 3) := by decide +kernel
theorem e114_45 {d : Nat} {l0 l1 l3 : Option Value} {x : Int32} {σ : ab_St} {Q : Option Value → ab_St → Prop} : Ev d 114 45 [l0, l1, some (.int x), l3] [] σ Q = Ev d 114 48 [l0, l1, some (.int (x + 1)), l3] [] σ Q := ev_S d114_45 rfl rfl rfl rfl
theorem d114_48 : decode (ab_C 114) 48 = .ok (.goto (-43), 3) := by decide +kernel
theorem e114_48 {d : Nat} {l0 l1 l2 l3 : Option Value} {σ : ab_St} {Q : Option Value → ab_St → Prop} : Ev d 114 48 [l0, l1, l2, l3] [] σ Q = Ev d 114 5 [l0, l1, l2, l3] [] σ Q := ev_J d114_48 rfl rfl rfl rfl rfl
theorem d114_51 : decode (ab_C 114) 51 = .ok (.iconst 0, 1) := by decide +kernel
theorem e114_51 {d : Nat} {l0 l1 l2 l3 : Option Value} {σ : ab_St} {Q : Option Value → ab_St → Prop} : Ev d 114 51 [l0, l1, l2, l3] [] σ Q = Ev d 114 52 [l0, l1, l2, l3] [.int 0] σ Q := ev_A1 d114_51 rfl
theorem d114_52 : decode (ab_C 114) 52 = .ok (.istore_n 2, 1) := by decide +kernel
theorem e114_52 {d : Nat} {l0 l1 l2 l3 : Option Value} {s0 : Int32} {σ : ab_St} {Q : Option Value → ab_St → Prop} : Ev d 114 52 [l0, l1, l2, l3] [.int s0] σ Q = Ev d 114 53 [l0, l1, some (.int s0), l3] [] σ Q := ev_S d114_52 rfl rfl rfl rfl
theorem d114_53 : decode (ab_C 114) 53 = .ok (.iconst 0, 1) := by decide +kernel
theorem e114_53 {d : Nat} {l0 l1 l2 l3 : Option Value} {σ : ab_St} {Q : Option Value → ab_St → Prop} : Ev d 114 53 [l0, l1, l2, l3] [] σ Q = Ev d 114 54 [l0, l1, l2, l3] [.int 0] σ Q := ev_A1 d114_53 rfl
theorem d114_54 : decode (ab_C 114) 54 = .ok (.istore_n 3, 1) := by decide +kernel
theorem e114_54 {d : Nat} {l0 l1 l2 l3 : Option Value} {s0 : Int32} {σ : ab_St} {Q : Option Value → ab_St → Prop} : Ev d 114 54 [l0, l1, l2, l3] [.int s0] σ Q = Ev d 114 55 [l0, l1, l2, some (.int s0)] [] σ Q := ev_S d114_54 rfl rfl rfl rfl
theorem d114_55 : decode (ab_C 114) 55 = .ok (.iload_n 3, 1) := by decide +kernel
theorem e114_55 {d : Nat} {l0 l1 l2 : Option Value} {x : Int32} {σ : ab_St} {Q : Option Value → ab_St → Prop} : Ev d 114 55 [l0, l1, l2, some (.int x)] [] σ Q = Ev d 114 56 [l0, l1, l2, some (.int x)] [.int x] σ Q := ev_A1 d114_55 rfl
theorem d114_56 : decode (ab_C 114) 56 = .ok (.aload_n 0, 1) := by decide +kernel
theorem e114_56 {d : Nat} {l1 l2 l3 : Option Value} {x : Nat} {s0 : Int32} {σ : ab_St} {Q : Option Value → ab_St → Prop} : Ev d 114 56 [some (.ref x), l1, l2, l3] [.int s0] σ Q = Ev d 114 57 [some (.ref x), l1, l2, l3] [.ref x, .int s0] σ Q := ev_A1 d114_56 rfl
theorem d114_57 : decode (ab_C 114) 57 = .ok (.getfield 82, 3) := by decide +kernel
theorem e114_57 {d : Nat} {l0 l1 l2 l3 : Option Value} {s0 : Nat} {s1 : Int32} {σ : ab_St} {Q : Option Value → ab_St → Prop} : Ev d 114 57 [l0, l1, l2, l3] [.ref s0, .int s1] σ Q = (ab_k s0 = 10 ∧ Ev d 114 60 [l0, l1, l2, l3] [.int (σ.1 s0 5), .int s1] σ Q) := ev_Hc (c := ab_k s0 = 10) d114_57 rfl rfl rfl rfl rfl rfl rfl rfl
theorem d114_60 : decode (ab_C 114) 60 = .ok (.if_icmp .ge 40, 3) := by decide +kernel
theorem e114_60 {d : Nat} {l0 l1 l2 l3 : Option Value} {s0 : Int32} {s1 : Int32} {σ : ab_St} {Q : Option Value → ab_St → Prop} : Ev d 114 60 [l0, l1, l2, l3] [.int s0, .int s1] σ Q = if s0 ≤ s1 then Ev d 114 100 [l0, l1, l2, l3] [] σ Q else Ev d 114 63 [l0, l1, l2, l3] [] σ Q := ev_B (c := s0 ≤ s1) d114_60 rfl rfl rfl rfl rfl
theorem d114_63 : decode (ab_C 114) 63 = .ok (.iload_n 2, 1) := by decide +kernel
theorem e114_63 {d : Nat} {l0 l1 l3 : Option Value} {x : Int32} {σ : ab_St} {Q : Option Value → ab_St → Prop} : Ev d 114 63 [l0, l1, some (.int x), l3] [] σ Q = Ev d 114 64 [l0, l1, some (.int x), l3] [.int x] σ Q := ev_A1 d114_63 rfl
theorem d114_64 : decode (ab_C 114) 64 = .ok (.aload_n 0, 1) := by decide +kernel
theorem e114_64 {d : Nat} {l1 l2 l3 : Option Value} {x : Nat} {s0 : Int32} {σ : ab_St} {Q : Option Value → ab_St → Prop} : Ev d 114 64 [some (.ref x), l1, l2, l3] [.int s0] σ Q = Ev d 114 65 [some (.ref x), l1, l2, l3] [.ref x, .int s0] σ Q := ev_A1 d114_64 rfl
theorem d114_65 : decode (ab_C 114) 65 = .ok (.getfield 138, 3) := by decide +kernel
theorem e114_65 {d : Nat} {l0 l1 l2 l3 : Option Value} {s0 : Nat} {s1 : Int32} {σ : ab_St} {Q : Option Value → ab_St → Prop} : Ev d 114 65 [l0, l1, l2, l3] [.ref s0, .int s1] σ Q = (ab_k s0 = 10 ∧ Ev d 114 68 [l0, l1, l2, l3] [.int (σ.1 s0 7), .int s1] σ Q) := ev_Hc (c := ab_k s0 = 10) d114_65 rfl rfl rfl rfl rfl rfl rfl rfl
theorem d114_68 : decode (ab_C 114) 68 = .ok (.iload_n 3, 1) := by decide +kernel
theorem e114_68 {d : Nat} {l0 l1 l2 : Option Value} {x : Int32} {s0 : Int32} {s1 : Int32} {σ : ab_St} {Q : Option Value → ab_St → Prop} : Ev d 114 68 [l0, l1, l2, some (.int x)] [.int s0, .int s1] σ Q = Ev d 114 69 [l0, l1, l2, some (.int x)] [.int x, .int s0, .int s1] σ Q := ev_A1 d114_68 rfl
theorem d114_69 : decode (ab_C 114) 69 = .ok (.invokestatic 154, 3) := by decide +kernel
theorem e114_69 {d : Nat} {l0 l1 l2 l3 : Option Value} {s0 : Int32} {s1 : Int32} {s2 : Int32} {σ : ab_St} {Q : Option Value → ab_St → Prop} : Ev (d + 1) 114 69 [l0, l1, l2, l3] [.int s0, .int s1, .int s2] σ Q = Ev d 113 0 [some (.int s1), some (.int s0)] [] σ (fun r σ2 => Ev (d + 1) 114 72 [l0, l1, l2, l3] (r.toList ++ [.int s2]) σ2 Q) := ev_K0 (y := 113) (ls := [l0, l1, l2, l3]) (st := [.int s0, .int s1, .int s2]) (as := [.int s1, .int s0]) (rest := [.int s2]) d114_69 rfl rfl rfl rfl rfl rfl rfl rfl
theorem d114_72 : decode (ab_C 114) 72 = .ok (.ifCond .eq 19, 3) := by decide +kernel
theorem e114_72 {d : Nat} {l0 l1 l2 l3 : Option Value} {s0 : Int32} {s1 : Int32} {σ : ab_St} {Q : Option Value → ab_St → Prop} : Ev d 114 72 [l0, l1, l2, l3] [.int s0, .int s1] σ Q = if s0 = 0 then Ev d 114 91 [l0, l1, l2, l3] [.int s1] σ Q else Ev d 114 75 [l0, l1, l2, l3] [.int s1] σ Q := ev_B (c := s0 = 0) d114_72 rfl rfl rfl rfl rfl
theorem d114_75 : decode (ab_C 114) 75 = .ok (.aload_n 0, 1) := by decide +kernel
theorem e114_75 {d : Nat} {l1 l2 l3 : Option Value} {x : Nat} {s0 : Int32} {σ : ab_St} {Q : Option Value → ab_St → Prop} : Ev d 114 75 [some (.ref x), l1, l2, l3] [.int s0] σ Q = Ev d 114 76 [some (.ref x), l1, l2, l3] [.ref x, .int s0] σ Q := ev_A1 d114_75 rfl
theorem d114_76 : decode (ab_C 114) 76 = .ok (.getfield 57, 3) := by decide +kernel
theorem e114_76 {d : Nat} {l0 l1 l2 l3 : Option Value} {s0 : Nat} {s1 : Int32} {σ : ab_St} {Q : Option Value → ab_St → Prop} : Ev d 114 76 [l0, l1, l2, l3] [.ref s0, .int s1] σ Q = (ab_k s0 = 10 ∧ Ev d 114 79 [l0, l1, l2, l3] [.ref (ab_r s0 28), .int s1] σ Q) := ev_Hc (c := ab_k s0 = 10) d114_76 rfl rfl rfl rfl rfl rfl rfl rfl
theorem d114_79 : decode (ab_C 114) 79 = .ok (.iload_n 3, 1) := by decide +kernel
theorem e114_79 {d : Nat} {l0 l1 l2 : Option Value} {x : Int32} {s0 : Nat} {s1 : Int32} {σ : ab_St} {Q : Option Value → ab_St → Prop} : Ev d 114 79 [l0, l1, l2, some (.int x)] [.ref s0, .int s1] σ Q = Ev d 114 80 [l0, l1, l2, some (.int x)] [.int x, .ref s0, .int s1] σ Q := ev_A1 d114_79 rfl
theorem d114_80 : decode (ab_C 114) 80 = .ok (.iaload, 1) := by decide +kernel
theorem e114_80 {d : Nat} {l0 l1 l2 l3 : Option Value} {s0 : Int32} {s1 : Nat} {s2 : Int32} {σ : ab_St} {Q : Option Value → ab_St → Prop} : Ev d 114 80 [l0, l1, l2, l3] [.int s0, .ref s1, .int s2] σ Q = ((ab_k s1 = 100 ∧ ab_in s0 (ab_n s1)) ∧ Ev d 114 81 [l0, l1, l2, l3] [.int (σ.1 s1 s0.toNatClampNeg), .int s2] σ Q) := ev_Hc (c := ab_k s1 = 100 ∧ ab_in s0 (ab_n s1)) d114_80 rfl rfl rfl rfl rfl rfl rfl rfl
theorem d114_81 : decode (ab_C 114) 81 = .ok (.iload_n 1, 1) := by decide +kernel
theorem e114_81 {d : Nat} {l0 l2 l3 : Option Value} {x : Int32} {s0 : Int32} {s1 : Int32} {σ : ab_St} {Q : Option Value → ab_St → Prop} : Ev d 114 81 [l0, some (.int x), l2, l3] [.int s0, .int s1] σ Q = Ev d 114 82 [l0, some (.int x), l2, l3] [.int x, .int s0, .int s1] σ Q := ev_A1 d114_81 rfl
theorem d114_82 : decode (ab_C 114) 82 = .ok (.if_icmp .ne 9, 3) := by decide +kernel
theorem e114_82 {d : Nat} {l0 l1 l2 l3 : Option Value} {s0 : Int32} {s1 : Int32} {s2 : Int32} {σ : ab_St} {Q : Option Value → ab_St → Prop} : Ev d 114 82 [l0, l1, l2, l3] [.int s0, .int s1, .int s2] σ Q = if s1 = s0 then Ev d 114 85 [l0, l1, l2, l3] [.int s2] σ Q else Ev d 114 91 [l0, l1, l2, l3] [.int s2] σ Q := ev_B (c := s1 = s0) d114_82 rfl rfl rfl rfl rfl
theorem d114_85 : decode (ab_C 114) 85 = .ok (.iconst 1, 1) := by decide +kernel
theorem e114_85 {d : Nat} {l0 l1 l2 l3 : Option Value} {s0 : Int32} {σ : ab_St} {Q : Option Value → ab_St → Prop} : Ev d 114 85 [l0, l1, l2, l3] [.int s0] σ Q = Ev d 114 86 [l0, l1, l2, l3] [.int 1, .int s0] σ Q := ev_A1 d114_85 rfl
theorem d114_86 : decode (ab_C 114) 86 = .ok (.iload_n 3, 1) := by decide +kernel
theorem e114_86 {d : Nat} {l0 l1 l2 : Option Value} {x : Int32} {s0 : Int32} {s1 : Int32} {σ : ab_St} {Q : Option Value → ab_St → Prop} : Ev d 114 86 [l0, l1, l2, some (.int x)] [.int s0, .int s1] σ Q = Ev d 114 87 [l0, l1, l2, some (.int x)] [.int x, .int s0, .int s1] σ Q := ev_A1 d114_86 rfl
theorem d114_87 : decode (ab_C 114) 87 = .ok (.ishl, 1) := by decide +kernel
theorem e114_87 {d : Nat} {l0 l1 l2 l3 : Option Value} {s0 : Int32} {s1 : Int32} {s2 : Int32} {σ : ab_St} {Q : Option Value → ab_St → Prop} : Ev d 114 87 [l0, l1, l2, l3] [.int s0, .int s1, .int s2] σ Q = Ev d 114 88 [l0, l1, l2, l3] [.int (s1 <<< (s0 &&& 31)), .int s2] σ Q := ev_A2 d114_87 rfl rfl
theorem d114_88 : decode (ab_C 114) 88 = .ok (.goto 4, 3) := by decide +kernel
theorem e114_88 {d : Nat} {l0 l1 l2 l3 : Option Value} {s0 : Int32} {s1 : Int32} {σ : ab_St} {Q : Option Value → ab_St → Prop} : Ev d 114 88 [l0, l1, l2, l3] [.int s0, .int s1] σ Q = Ev d 114 92 [l0, l1, l2, l3] [.int s0, .int s1] σ Q := ev_J d114_88 rfl rfl rfl rfl rfl
theorem d114_91 : decode (ab_C 114) 91 = .ok (.iconst 0, 1) := by decide +kernel
theorem e114_91 {d : Nat} {l0 l1 l2 l3 : Option Value} {s0 : Int32} {σ : ab_St} {Q : Option Value → ab_St → Prop} : Ev d 114 91 [l0, l1, l2, l3] [.int s0] σ Q = Ev d 114 92 [l0, l1, l2, l3] [.int 0, .int s0] σ Q := ev_A1 d114_91 rfl
theorem d114_92 : decode (ab_C 114) 92 = .ok (.ior, 1) := by decide +kernel
theorem e114_92 {d : Nat} {l0 l1 l2 l3 : Option Value} {s0 : Int32} {s1 : Int32} {σ : ab_St} {Q : Option Value → ab_St → Prop} : Ev d 114 92 [l0, l1, l2, l3] [.int s0, .int s1] σ Q = Ev d 114 93 [l0, l1, l2, l3] [.int (s1 ||| s0)] σ Q := ev_A2 d114_92 rfl rfl
theorem d114_93 : decode (ab_C 114) 93 = .ok (.istore_n 2, 1) := by decide +kernel
theorem e114_93 {d : Nat} {l0 l1 l2 l3 : Option Value} {s0 : Int32} {σ : ab_St} {Q : Option Value → ab_St → Prop} : Ev d 114 93 [l0, l1, l2, l3] [.int s0] σ Q = Ev d 114 94 [l0, l1, some (.int s0), l3] [] σ Q := ev_S d114_93 rfl rfl rfl rfl
theorem d114_94 : decode (ab_C 114) 94 = .ok (.iinc 3 1, 3) := by decide +kernel
theorem e114_94 {d : Nat} {l0 l1 l2 : Option Value} {x : Int32} {σ : ab_St} {Q : Option Value → ab_St → Prop} : Ev d 114 94 [l0, l1, l2, some (.int x)] [] σ Q = Ev d 114 97 [l0, l1, l2, some (.int (x + 1))] [] σ Q := ev_S d114_94 rfl rfl rfl rfl
theorem d114_97 : decode (ab_C 114) 97 = .ok (.goto (-42), 3) := by decide +kernel
theorem e114_97 {d : Nat} {l0 l1 l2 l3 : Option Value} {σ : ab_St} {Q : Option Value → ab_St → Prop} : Ev d 114 97 [l0, l1, l2, l3] [] σ Q = Ev d 114 55 [l0, l1, l2, l3] [] σ Q := ev_J d114_97 rfl rfl rfl rfl rfl
theorem d114_100 : decode (ab_C 114) 100 = .ok (.iload_n 2, 1) := by decide +kernel
theorem e114_100 {d : Nat} {l0 l1 l3 : Option Value} {x : Int32} {σ : ab_St} {Q : Option Value → ab_St → Prop} : Ev d 114 100 [l0, l1, some (.int x), l3] [] σ Q = Ev d 114 101 [l0, l1, some (.int x), l3] [.int x] σ Q := ev_A1 d114_100 rfl
theorem d114_101 : decode (ab_C 114) 101 = .ok (.ireturn, 1) := by decide +kernel
theorem e114_101 {d : Nat} {l0 l1 l2 l3 : Option Value} {s0 : Int32} {σ : ab_St} {Q : Option Value → ab_St → Prop} : Ev d 114 101 [l0, l1, l2, l3] [.int s0] σ Q = Q (some (.int s0)) σ := ev_E d114_101 rfl rfl rfl rfl rfl rfl rfl
/-! SaidLeastModel.worthOf(II)I -/
theorem d115_0 : decode (ab_C 115) 0 = .ok (.iconst 0, 1) := by decide +kernel
theorem e115_0 {d : Nat} {l0 l1 l2 l3 l4 : Option Value} {σ : ab_St} {Q : Option Value → ab_St → Prop} : Ev d 115 0 [l0, l1, l2, l3, l4] [] σ Q = Ev d 115 1 [l0, l1, l2, l3, l4] [.int 0] σ Q := ev_A1 d115_0 rfl
theorem d115_1 : decode (ab_C 115) 1 = .ok (.istore_n 3, 1) := by decide +kernel
theorem e115_1 {d : Nat} {l0 l1 l2 l3 l4 : Option Value} {s0 : Int32} {σ : ab_St} {Q : Option Value → ab_St → Prop} : Ev d 115 1 [l0, l1, l2, l3, l4] [.int s0] σ Q = Ev d 115 2 [l0, l1, l2, some (.int s0), l4] [] σ Q := ev_S d115_1 rfl rfl rfl rfl
theorem d115_2 : decode (ab_C 115) 2 = .ok (.iconst 0, 1) := by decide +kernel
theorem e115_2 {d : Nat} {l0 l1 l2 l3 l4 : Option Value} {σ : ab_St} {Q : Option Value → ab_St → Prop} : Ev d 115 2 [l0, l1, l2, l3, l4] [] σ Q = Ev d 115 3 [l0, l1, l2, l3, l4] [.int 0] σ Q := ev_A1 d115_2 rfl
theorem d115_3 : decode (ab_C 115) 3 = .ok (.istore 4, 2) := by decide +kernel
theorem e115_3 {d : Nat} {l0 l1 l2 l3 l4 : Option Value} {s0 : Int32} {σ : ab_St} {Q : Option Value → ab_St → Prop} : Ev d 115 3 [l0, l1, l2, l3, l4] [.int s0] σ Q = Ev d 115 5 [l0, l1, l2, l3, some (.int s0)] [] σ Q := ev_S d115_3 rfl rfl rfl rfl
theorem d115_5 : decode (ab_C 115) 5 = .ok (.iload 4, 2) := by decide +kernel
theorem e115_5 {d : Nat} {l0 l1 l2 l3 : Option Value} {x : Int32} {σ : ab_St} {Q : Option Value → ab_St → Prop} : Ev d 115 5 [l0, l1, l2, l3, some (.int x)] [] σ Q = Ev d 115 7 [l0, l1, l2, l3, some (.int x)] [.int x] σ Q := ev_A1 d115_5 rfl
theorem d115_7 : decode (ab_C 115) 7 = .ok (.aload_n 0, 1) := by decide +kernel
theorem e115_7 {d : Nat} {l1 l2 l3 l4 : Option Value} {x : Nat} {s0 : Int32} {σ : ab_St} {Q : Option Value → ab_St → Prop} : Ev d 115 7 [some (.ref x), l1, l2, l3, l4] [.int s0] σ Q = Ev d 115 8 [some (.ref x), l1, l2, l3, l4] [.ref x, .int s0] σ Q := ev_A1 d115_7 rfl
theorem d115_8 : decode (ab_C 115) 8 = .ok (.getfield 89, 3) := by decide +kernel
theorem e115_8 {d : Nat} {l0 l1 l2 l3 l4 : Option Value} {s0 : Nat} {s1 : Int32} {σ : ab_St} {Q : Option Value → ab_St → Prop} : Ev d 115 8 [l0, l1, l2, l3, l4] [.ref s0, .int s1] σ Q = (ab_k s0 = 10 ∧ Ev d 115 11 [l0, l1, l2, l3, l4] [.int (σ.1 s0 8), .int s1] σ Q) := ev_Hc (c := ab_k s0 = 10) d115_8 rfl rfl rfl rfl rfl rfl rfl rfl
theorem d115_11 : decode (ab_C 115) 11 = .ok (.if_icmp .ge 49, 3) := by decide +kernel
theorem e115_11 {d : Nat} {l0 l1 l2 l3 l4 : Option Value} {s0 : Int32} {s1 : Int32} {σ : ab_St} {Q : Option Value → ab_St → Prop} : Ev d 115 11 [l0, l1, l2, l3, l4] [.int s0, .int s1] σ Q = if s0 ≤ s1 then Ev d 115 60 [l0, l1, l2, l3, l4] [] σ Q else Ev d 115 14 [l0, l1, l2, l3, l4] [] σ Q := ev_B (c := s0 ≤ s1) d115_11 rfl rfl rfl rfl rfl
theorem d115_14 : decode (ab_C 115) 14 = .ok (.iload_n 3, 1) := by decide +kernel
theorem e115_14 {d : Nat} {l0 l1 l2 l4 : Option Value} {x : Int32} {σ : ab_St} {Q : Option Value → ab_St → Prop} : Ev d 115 14 [l0, l1, l2, some (.int x), l4] [] σ Q = Ev d 115 15 [l0, l1, l2, some (.int x), l4] [.int x] σ Q := ev_A1 d115_14 rfl
theorem d115_15 : decode (ab_C 115) 15 = .ok (.iload_n 1, 1) := by decide +kernel
theorem e115_15 {d : Nat} {l0 l2 l3 l4 : Option Value} {x : Int32} {s0 : Int32} {σ : ab_St} {Q : Option Value → ab_St → Prop} : Ev d 115 15 [l0, some (.int x), l2, l3, l4] [.int s0] σ Q = Ev d 115 16 [l0, some (.int x), l2, l3, l4] [.int x, .int s0] σ Q := ev_A1 d115_15 rfl
theorem d115_16 : decode (ab_C 115) 16 = .ok (.iload 4, 2) := by decide +kernel
theorem e115_16 {d : Nat} {l0 l1 l2 l3 : Option Value} {x : Int32} {s0 : Int32} {s1 : Int32} {σ : ab_St} {Q : Option Value → ab_St → Prop} : Ev d 115 16 [l0, l1, l2, l3, some (.int x)] [.int s0, .int s1] σ Q = Ev d 115 18 [l0, l1, l2, l3, some (.int x)] [.int x, .int s0, .int s1] σ Q := ev_A1 d115_16 rfl
theorem d115_18 : decode (ab_C 115) 18 = .ok (.invokestatic 154, 3) := by decide +kernel
theorem e115_18 {d : Nat} {l0 l1 l2 l3 l4 : Option Value} {s0 : Int32} {s1 : Int32} {s2 : Int32} {σ : ab_St} {Q : Option Value → ab_St → Prop} : Ev (d + 1) 115 18 [l0, l1, l2, l3, l4] [.int s0, .int s1, .int s2] σ Q = Ev d 113 0 [some (.int s1), some (.int s0)] [] σ (fun r σ2 => Ev (d + 1) 115 21 [l0, l1, l2, l3, l4] (r.toList ++ [.int s2]) σ2 Q) := ev_K0 (y := 113) (ls := [l0, l1, l2, l3, l4]) (st := [.int s0, .int s1, .int s2]) (as := [.int s1, .int s0]) (rest := [.int s2]) d115_18 rfl rfl rfl rfl rfl rfl rfl rfl
theorem d115_21 : decode (ab_C 115) 21 = .ok (.ifCond .eq 30, 3) := by decide +kernel
theorem e115_21 {d : Nat} {l0 l1 l2 l3 l4 : Option Value} {s0 : Int32} {s1 : Int32} {σ : ab_St} {Q : Option Value → ab_St → Prop} : Ev d 115 21 [l0, l1, l2, l3, l4] [.int s0, .int s1] σ Q = if s0 = 0 then Ev d 115 51 [l0, l1, l2, l3, l4] [.int s1] σ Q else Ev d 115 24 [l0, l1, l2, l3, l4] [.int s1] σ Q := ev_B (c := s0 = 0) d115_21 rfl rfl rfl rfl rfl
theorem d115_24 : decode (ab_C 115) 24 = .ok (.iload_n 2, 1) := by decide +kernel
theorem e115_24 {d : Nat} {l0 l1 l3 l4 : Option Value} {x : Int32} {s0 : Int32} {σ : ab_St} {Q : Option Value → ab_St → Prop} : Ev d 115 24 [l0, l1, some (.int x), l3, l4] [.int s0] σ Q = Ev d 115 25 [l0, l1, some (.int x), l3, l4] [.int x, .int s0] σ Q := ev_A1 d115_24 rfl
theorem d115_25 : decode (ab_C 115) 25 = .ok (.bipush (-9), 2) := by decide +kernel
theorem e115_25 {d : Nat} {l0 l1 l2 l3 l4 : Option Value} {s0 : Int32} {s1 : Int32} {σ : ab_St} {Q : Option Value → ab_St → Prop} : Ev d 115 25 [l0, l1, l2, l3, l4] [.int s0, .int s1] σ Q = Ev d 115 27 [l0, l1, l2, l3, l4] [.int (-9), .int s0, .int s1] σ Q := ev_A1 d115_25 rfl
theorem d115_27 : decode (ab_C 115) 27 = .ok (.if_icmp .eq 14, 3) := by decide +kernel
theorem e115_27 {d : Nat} {l0 l1 l2 l3 l4 : Option Value} {s0 : Int32} {s1 : Int32} {s2 : Int32} {σ : ab_St} {Q : Option Value → ab_St → Prop} : Ev d 115 27 [l0, l1, l2, l3, l4] [.int s0, .int s1, .int s2] σ Q = if s1 = s0 then Ev d 115 41 [l0, l1, l2, l3, l4] [.int s2] σ Q else Ev d 115 30 [l0, l1, l2, l3, l4] [.int s2] σ Q := ev_B (c := s1 = s0) d115_27 rfl rfl rfl rfl rfl
theorem d115_30 : decode (ab_C 115) 30 = .ok (.aload_n 0, 1) := by decide +kernel
theorem e115_30 {d : Nat} {l1 l2 l3 l4 : Option Value} {x : Nat} {s0 : Int32} {σ : ab_St} {Q : Option Value → ab_St → Prop} : Ev d 115 30 [some (.ref x), l1, l2, l3, l4] [.int s0] σ Q = Ev d 115 31 [some (.ref x), l1, l2, l3, l4] [.ref x, .int s0] σ Q := ev_A1 d115_30 rfl
theorem d115_31 : decode (ab_C 115) 31 = .ok (.getfield 16, 3) := by decide +kernel
theorem e115_31 {d : Nat} {l0 l1 l2 l3 l4 : Option Value} {s0 : Nat} {s1 : Int32} {σ : ab_St} {Q : Option Value → ab_St → Prop} : Ev d 115 31 [l0, l1, l2, l3, l4] [.ref s0, .int s1] σ Q = (ab_k s0 = 10 ∧ Ev d 115 34 [l0, l1, l2, l3, l4] [.ref (ab_r s0 9), .int s1] σ Q) := ev_Hc (c := ab_k s0 = 10) d115_31 rfl rfl rfl rfl rfl rfl rfl rfl
theorem d115_34 : decode (ab_C 115) 34 = .ok (.iload 4, 2) := by decide +kernel
theorem e115_34 {d : Nat} {l0 l1 l2 l3 : Option Value} {x : Int32} {s0 : Nat} {s1 : Int32} {σ : ab_St} {Q : Option Value → ab_St → Prop} : Ev d 115 34 [l0, l1, l2, l3, some (.int x)] [.ref s0, .int s1] σ Q = Ev d 115 36 [l0, l1, l2, l3, some (.int x)] [.int x, .ref s0, .int s1] σ Q := ev_A1 d115_34 rfl
theorem d115_36 : decode (ab_C 115) 36 = .ok (.iaload, 1) := by decide +kernel
theorem e115_36 {d : Nat} {l0 l1 l2 l3 l4 : Option Value} {s0 : Int32} {s1 : Nat} {s2 : Int32} {σ : ab_St} {Q : Option Value → ab_St → Prop} : Ev d 115 36 [l0, l1, l2, l3, l4] [.int s0, .ref s1, .int s2] σ Q = ((ab_k s1 = 100 ∧ ab_in s0 (ab_n s1)) ∧ Ev d 115 37 [l0, l1, l2, l3, l4] [.int (σ.1 s1 s0.toNatClampNeg), .int s2] σ Q) := ev_Hc (c := ab_k s1 = 100 ∧ ab_in s0 (ab_n s1)) d115_36 rfl rfl rfl rfl rfl rfl rfl rfl
theorem d115_37 : decode (ab_C 115) 37 = .ok (.iload_n 2, 1) := by decide +kernel
theorem e115_37 {d : Nat} {l0 l1 l3 l4 : Option Value} {x : Int32} {s0 : Int32} {s1 : Int32} {σ : ab_St} {Q : Option Value → ab_St → Prop} : Ev d 115 37 [l0, l1, some (.int x), l3, l4] [.int s0, .int s1] σ Q = Ev d 115 38 [l0, l1, some (.int x), l3, l4] [.int x, .int s0, .int s1] σ Q := ev_A1 d115_37 rfl
theorem d115_38 : decode (ab_C 115) 38 = .ok (.if_icmp .ne 13, 3) := by decide +kernel
theorem e115_38 {d : Nat} {l0 l1 l2 l3 l4 : Option Value} {s0 : Int32} {s1 : Int32} {s2 : Int32} {σ : ab_St} {Q : Option Value → ab_St → Prop} : Ev d 115 38 [l0, l1, l2, l3, l4] [.int s0, .int s1, .int s2] σ Q = if s1 = s0 then Ev d 115 41 [l0, l1, l2, l3, l4] [.int s2] σ Q else Ev d 115 51 [l0, l1, l2, l3, l4] [.int s2] σ Q := ev_B (c := s1 = s0) d115_38 rfl rfl rfl rfl rfl
theorem d115_41 : decode (ab_C 115) 41 = .ok (.aload_n 0, 1) := by decide +kernel
theorem e115_41 {d : Nat} {l1 l2 l3 l4 : Option Value} {x : Nat} {s0 : Int32} {σ : ab_St} {Q : Option Value → ab_St → Prop} : Ev d 115 41 [some (.ref x), l1, l2, l3, l4] [.int s0] σ Q = Ev d 115 42 [some (.ref x), l1, l2, l3, l4] [.ref x, .int s0] σ Q := ev_A1 d115_41 rfl
theorem d115_42 : decode (ab_C 115) 42 = .ok (.getfield 22, 3) := by decide +kernel
theorem e115_42 {d : Nat} {l0 l1 l2 l3 l4 : Option Value} {s0 : Nat} {s1 : Int32} {σ : ab_St} {Q : Option Value → ab_St → Prop} : Ev d 115 42 [l0, l1, l2, l3, l4] [.ref s0, .int s1] σ Q = (ab_k s0 = 10 ∧ Ev d 115 45 [l0, l1, l2, l3, l4] [.ref (ab_r s0 11), .int s1] σ Q) := ev_Hc (c := ab_k s0 = 10) d115_42 rfl rfl rfl rfl rfl rfl rfl rfl
theorem d115_45 : decode (ab_C 115) 45 = .ok (.iload 4, 2) := by decide +kernel
theorem e115_45 {d : Nat} {l0 l1 l2 l3 : Option Value} {x : Int32} {s0 : Nat} {s1 : Int32} {σ : ab_St} {Q : Option Value → ab_St → Prop} : Ev d 115 45 [l0, l1, l2, l3, some (.int x)] [.ref s0, .int s1] σ Q = Ev d 115 47 [l0, l1, l2, l3, some (.int x)] [.int x, .ref s0, .int s1] σ Q := ev_A1 d115_45 rfl
theorem d115_47 : decode (ab_C 115) 47 = .ok (.iaload, 1) := by decide +kernel
theorem e115_47 {d : Nat} {l0 l1 l2 l3 l4 : Option Value} {s0 : Int32} {s1 : Nat} {s2 : Int32} {σ : ab_St} {Q : Option Value → ab_St → Prop} : Ev d 115 47 [l0, l1, l2, l3, l4] [.int s0, .ref s1, .int s2] σ Q = ((ab_k s1 = 100 ∧ ab_in s0 (ab_n s1)) ∧ Ev d 115 48 [l0, l1, l2, l3, l4] [.int (σ.1 s1 s0.toNatClampNeg), .int s2] σ Q) := ev_Hc (c := ab_k s1 = 100 ∧ ab_in s0 (ab_n s1)) d115_47 rfl rfl rfl rfl rfl rfl rfl rfl
theorem d115_48 : decode (ab_C 115) 48 = .ok (.goto 4, 3) := by decide +kernel
theorem e115_48 {d : Nat} {l0 l1 l2 l3 l4 : Option Value} {s0 : Int32} {s1 : Int32} {σ : ab_St} {Q : Option Value → ab_St → Prop} : Ev d 115 48 [l0, l1, l2, l3, l4] [.int s0, .int s1] σ Q = Ev d 115 52 [l0, l1, l2, l3, l4] [.int s0, .int s1] σ Q := ev_J d115_48 rfl rfl rfl rfl rfl
theorem d115_51 : decode (ab_C 115) 51 = .ok (.iconst 0, 1) := by decide +kernel
theorem e115_51 {d : Nat} {l0 l1 l2 l3 l4 : Option Value} {s0 : Int32} {σ : ab_St} {Q : Option Value → ab_St → Prop} : Ev d 115 51 [l0, l1, l2, l3, l4] [.int s0] σ Q = Ev d 115 52 [l0, l1, l2, l3, l4] [.int 0, .int s0] σ Q := ev_A1 d115_51 rfl
theorem d115_52 : decode (ab_C 115) 52 = .ok (.iadd, 1) := by decide +kernel
theorem e115_52 {d : Nat} {l0 l1 l2 l3 l4 : Option Value} {s0 : Int32} {s1 : Int32} {σ : ab_St} {Q : Option Value → ab_St → Prop} : Ev d 115 52 [l0, l1, l2, l3, l4] [.int s0, .int s1] σ Q = Ev d 115 53 [l0, l1, l2, l3, l4] [.int (s1 + s0)] σ Q := ev_A2 d115_52 rfl rfl
theorem d115_53 : decode (ab_C 115) 53 = .ok (.istore_n 3, 1) := by decide +kernel
theorem e115_53 {d : Nat} {l0 l1 l2 l3 l4 : Option Value} {s0 : Int32} {σ : ab_St} {Q : Option Value → ab_St → Prop} : Ev d 115 53 [l0, l1, l2, l3, l4] [.int s0] σ Q = Ev d 115 54 [l0, l1, l2, some (.int s0), l4] [] σ Q := ev_S d115_53 rfl rfl rfl rfl
theorem d115_54 : decode (ab_C 115) 54 = .ok (.iinc 4 1, 3) := by decide +kernel
theorem e115_54 {d : Nat} {l0 l1 l2 l3 : Option Value} {x : Int32} {σ : ab_St} {Q : Option Value → ab_St → Prop} : Ev d 115 54 [l0, l1, l2, l3, some (.int x)] [] σ Q = Ev d 115 57 [l0, l1, l2, l3, some (.int (x + 1))] [] σ Q := ev_S d115_54 rfl rfl rfl rfl
theorem d115_57 : decode (ab_C 115) 57 = .ok (.goto (-52), 3) := by decide +kernel
theorem e115_57 {d : Nat} {l0 l1 l2 l3 l4 : Option Value} {σ : ab_St} {Q : Option Value → ab_St → Prop} : Ev d 115 57 [l0, l1, l2, l3, l4] [] σ Q = Ev d 115 5 [l0, l1, l2, l3, l4] [] σ Q := ev_J d115_57 rfl rfl rfl rfl rfl
theorem d115_60 : decode (ab_C 115) 60 = .ok (.iload_n 3, 1) := by decide +kernel
theorem e115_60 {d : Nat} {l0 l1 l2 l4 : Option Value} {x : Int32} {σ : ab_St} {Q : Option Value → ab_St → Prop} : Ev d 115 60 [l0, l1, l2, some (.int x), l4] [] σ Q = Ev d 115 61 [l0, l1, l2, some (.int x), l4] [.int x] σ Q := ev_A1 d115_60 rfl
theorem d115_61 : decode (ab_C 115) 61 = .ok (.ireturn, 1) := by decide +kernel
theorem e115_61 {d : Nat} {l0 l1 l2 l3 l4 : Option Value} {s0 : Int32} {σ : ab_St} {Q : Option Value → ab_St → Prop} : Ev d 115 61 [l0, l1, l2, l3, l4] [.int s0] σ Q = Q (some (.int s0)) σ := ev_E d115_61 rfl rfl rfl rfl rfl rfl rfl
/-! SaidLeastModel.person(II)I -/
theorem d116_0 : decode (ab_C 116) 0 = .ok (.aload_n 0, 1) := by decide +kernel
theorem e116_0 {d : Nat} {l1 l2 : Option Value} {x : Nat} {σ : ab_St} {Q : Option Value → ab_St → Prop} : Ev d 116 0 [some (.ref x), l1, l2] [] σ Q = Ev d 116 1 [some (.ref x), l1, l2] [.ref x] σ Q := ev_A1 d116_0 rfl
theorem d116_1 : decode (ab_C 116) 1 = .ok (.iconst 0, 1) := by decide +kernel
theorem e116_1 {d : Nat} {l0 l1 l2 : Option Value} {s0 : Nat} {σ : ab_St} {Q : Option Value → ab_St → Prop} : Ev d 116 1 [l0, l1, l2] [.ref s0] σ Q = Ev d 116 2 [l0, l1, l2] [.int 0, .ref s0] σ Q := ev_A1 d116_1 rfl
theorem d116_2 : decode (ab_C 116) 2 = .ok (.putfield 79, 3) := by decide +kernel
theorem e116_2 {d : Nat} {l0 l1 l2 : Option Value} {s0 : Int32} {s1 : Nat} {σ : ab_St} {Q : Option Value → ab_St → Prop} : Ev d 116 2 [l0, l1, l2] [.int s0, .ref s1] σ Q = (ab_k s1 = 10 ∧ Ev d 116 5 [l0, l1, l2] [] (ab_wI σ s1 (upd (σ.1 s1) 0 s0)) Q) := ev_Hc (c := ab_k s1 = 10) d116_2 rfl rfl rfl rfl rfl rfl rfl rfl
theorem d116_5 : decode (ab_C 116) 5 = .ok (.aload_n 0, 1) := by decide +kernel
theorem e116_5 {d : Nat} {l1 l2 : Option Value} {x : Nat} {σ : ab_St} {Q : Option Value → ab_St → Prop} : Ev d 116 5 [some (.ref x), l1, l2] [] σ Q = Ev d 116 6 [some (.ref x), l1, l2] [.ref x] σ Q := ev_A1 d116_5 rfl
theorem d116_6 : decode (ab_C 116) 6 = .ok (.iload_n 1, 1) := by decide +kernel
theorem e116_6 {d : Nat} {l0 l2 : Option Value} {x : Int32} {s0 : Nat} {σ : ab_St} {Q : Option Value → ab_St → Prop} : Ev d 116 6 [l0, some (.int x), l2] [.ref s0] σ Q = Ev d 116 7 [l0, some (.int x), l2] [.int x, .ref s0] σ Q := ev_A1 d116_6 rfl
theorem d116_7 : decode (ab_C 116) 7 = .ok (.invokevirtual 167, 3) := by decide +kernel
theorem e116_7 {d : Nat} {l0 l1 l2 : Option Value} {s0 : Int32} {s1 : Nat} {σ : ab_St} {Q : Option Value → ab_St → Prop} : Ev (d + 1) 116 7 [l0, l1, l2] [.int s0, .ref s1] σ Q = (ab_k s1 = 10 ∧ Ev d 117 0 [some (.ref s1), some (.int s0)] [] σ (fun r σ2 => Ev (d + 1) 116 10 [l0, l1, l2] (r.toList ++ []) σ2 Q)) := ev_KV (b := s1) (ls := [l0, l1, l2]) (st := [.int s0, .ref s1]) (as := [.int s0]) (rest := []) d116_7 rfl rfl rfl (Nat.le_of_ble_eq_true rfl) (Nat.le_of_ble_eq_true rfl) (Nat.le_of_ble_eq_true rfl) rfl rfl rfl rfl rfl rfl rfl
theorem d116_10 : decode (ab_C 116) 10 = .ok (.ifCond .eq 5, 3) := by decide +kernel
theorem e116_10 {d : Nat} {l0 l1 l2 : Option Value} {s0 : Int32} {σ : ab_St} {Q : Option Value → ab_St → Prop} : Ev d 116 10 [l0, l1, l2] [.int s0] σ Q = if s0 = 0 then Ev d 116 15 [l0, l1, l2] [] σ Q else Ev d 116 13 [l0, l1, l2] [] σ Q := ev_B (c := s0 = 0) d116_10 rfl rfl rfl rfl rfl
theorem d116_13 : decode (ab_C 116) 13 = .ok (.iconst (-1), 1) := by decide +kernel
theorem e116_13 {d : Nat} {l0 l1 l2 : Option Value} {σ : ab_St} {Q : Option Value → ab_St → Prop} : Ev d 116 13 [l0, l1, l2] [] σ Q = Ev d 116 14 [l0, l1, l2] [.int (-1)] σ Q := ev_A1 d116_13 rfl
theorem d116_14 : decode (ab_C 116) 14 = .ok (.ireturn, 1) := by decide +kernel
theorem e116_14 {d : Nat} {l0 l1 l2 : Option Value} {s0 : Int32} {σ : ab_St} {Q : Option Value → ab_St → Prop} : Ev d 116 14 [l0, l1, l2] [.int s0] σ Q = Q (some (.int s0)) σ := ev_E d116_14 rfl rfl rfl rfl rfl rfl rfl
theorem d116_15 : decode (ab_C 116) 15 = .ok (.aload_n 0, 1) := by decide +kernel
theorem e116_15 {d : Nat} {l1 l2 : Option Value} {x : Nat} {σ : ab_St} {Q : Option Value → ab_St → Prop} : Ev d 116 15 [some (.ref x), l1, l2] [] σ Q = Ev d 116 16 [some (.ref x), l1, l2] [.ref x] σ Q := ev_A1 d116_15 rfl
theorem d116_16 : decode (ab_C 116) 16 = .ok (.invokevirtual 158, 3) := by decide +kernel
theorem e116_16 {d : Nat} {l0 l1 l2 : Option Value} {s0 : Nat} {σ : ab_St} {Q : Option Value → ab_St → Prop} : Ev (d + 1) 116 16 [l0, l1, l2] [.ref s0] σ Q = (ab_k s0 = 10 ∧ Ev d 112 0 [some (.ref s0), none] [] σ (fun r σ2 => Ev (d + 1) 116 19 [l0, l1, l2] (r.toList ++ []) σ2 Q)) := ev_KV (b := s0) (ls := [l0, l1, l2]) (st := [.ref s0]) (as := []) (rest := []) d116_16 rfl rfl rfl (Nat.le_of_ble_eq_true rfl) (Nat.le_of_ble_eq_true rfl) (Nat.le_of_ble_eq_true rfl) rfl rfl rfl rfl rfl rfl rfl
theorem d116_19 : decode (ab_C 116) 19 = .ok (.iload_n 2, 1) := by decide +kernel
theorem e116_19 {d : Nat} {l0 l1 : Option Value} {x : Int32} {σ : ab_St} {Q : Option Value → ab_St → Prop} : Ev d 116 19 [l0, l1, some (.int x)] [] σ Q = Ev d 116 20 [l0, l1, some (.int x)] [.int x] σ Q := ev_A1 d116_19 rfl
theorem d116_20 : decode (ab_C 116) 20 = .ok (.tableswitch 83 0 3 #[32, 39, 56, 73], 32) := by decide +kernel
theorem e116_20 {d : Nat} {l0 l1 l2 : Option Value} {s0 : Int32} {σ : ab_St} {Q : Option Value → ab_St → Prop} : Ev d 116 20 [l0, l1, l2] [.int s0] σ Q = if s0 = 0 then Ev d 116 52 [l0, l1, l2] [] σ Q else if s0 = 1 then Ev d 116 59 [l0, l1, l2] [] σ Q else if s0 = 2 then Ev d 116 76 [l0, l1, l2] [] σ Q else if s0 = 3 then Ev d 116 93 [l0, l1, l2] [] σ Q else Ev d 116 103 [l0, l1, l2] [] σ Q := ev_T (ts := [52, 59, 76, 93]) (df := 103) d116_20 (by decide +kernel)
theorem d116_52 : decode (ab_C 116) 52 = .ok (.aload_n 0, 1) := by decide +kernel
theorem e116_52 {d : Nat} {l1 l2 : Option Value} {x : Nat} {σ : ab_St} {Q : Option Value → ab_St → Prop} : Ev d 116 52 [some (.ref x), l1, l2] [] σ Q = Ev d 116 53 [some (.ref x), l1, l2] [.ref x] σ Q := ev_A1 d116_52 rfl
theorem d116_53 : decode (ab_C 116) 53 = .ok (.getfield 13, 3) := by decide +kernel
theorem e116_53 {d : Nat} {l0 l1 l2 : Option Value} {s0 : Nat} {σ : ab_St} {Q : Option Value → ab_St → Prop} : Ev d 116 53 [l0, l1, l2] [.ref s0] σ Q = (ab_k s0 = 10 ∧ Ev d 116 56 [l0, l1, l2] [.ref (ab_r s0 6)] σ Q) := ev_Hc (c := ab_k s0 = 10) d116_53 rfl rfl rfl rfl rfl rfl rfl rfl
theorem d116_56 : decode (ab_C 116) 56 = .ok (.iload_n 1, 1) := by decide +kernel
theorem e116_56 {d : Nat} {l0 l2 : Option Value} {x : Int32} {s0 : Nat} {σ : ab_St} {Q : Option Value → ab_St → Prop} : Ev d 116 56 [l0, some (.int x), l2] [.ref s0] σ Q = Ev d 116 57 [l0, some (.int x), l2] [.int x, .ref s0] σ Q := ev_A1 d116_56 rfl
theorem d116_57 : decode (ab_C 116) 57 = .ok (.iaload, 1) := by decide +kernel
theorem e116_57 {d : Nat} {l0 l1 l2 : Option Value} {s0 : Int32} {s1 : Nat} {σ : ab_St} {Q : Option Value → ab_St → Prop} : Ev d 116 57 [l0, l1, l2] [.int s0, .ref s1] σ Q = ((ab_k s1 = 100 ∧ ab_in s0 (ab_n s1)) ∧ Ev d 116 58 [l0, l1, l2] [.int (σ.1 s1 s0.toNatClampNeg)] σ Q) := ev_Hc (c := ab_k s1 = 100 ∧ ab_in s0 (ab_n s1)) d116_57 rfl rfl rfl rfl rfl rfl rfl rfl
theorem d116_58 : decode (ab_C 116) 58 = .ok (.ireturn, 1) := by decide +kernel
theorem e116_58 {d : Nat} {l0 l1 l2 : Option Value} {s0 : Int32} {σ : ab_St} {Q : Option Value → ab_St → Prop} : Ev d 116 58 [l0, l1, l2] [.int s0] σ Q = Q (some (.int s0)) σ := ev_E d116_58 rfl rfl rfl rfl rfl rfl rfl
theorem d116_59 : decode (ab_C 116) 59 = .ok (.aload_n 0, 1) := by decide +kernel
theorem e116_59 {d : Nat} {l1 l2 : Option Value} {x : Nat} {σ : ab_St} {Q : Option Value → ab_St → Prop} : Ev d 116 59 [some (.ref x), l1, l2] [] σ Q = Ev d 116 60 [some (.ref x), l1, l2] [.ref x] σ Q := ev_A1 d116_59 rfl
theorem d116_60 : decode (ab_C 116) 60 = .ok (.getfield 138, 3) := by decide +kernel
theorem e116_60 {d : Nat} {l0 l1 l2 : Option Value} {s0 : Nat} {σ : ab_St} {Q : Option Value → ab_St → Prop} : Ev d 116 60 [l0, l1, l2] [.ref s0] σ Q = (ab_k s0 = 10 ∧ Ev d 116 63 [l0, l1, l2] [.int (σ.1 s0 7)] σ Q) := ev_Hc (c := ab_k s0 = 10) d116_60 rfl rfl rfl rfl rfl rfl rfl rfl
theorem d116_63 : decode (ab_C 116) 63 = .ok (.iload_n 1, 1) := by decide +kernel
theorem e116_63 {d : Nat} {l0 l2 : Option Value} {x : Int32} {s0 : Int32} {σ : ab_St} {Q : Option Value → ab_St → Prop} : Ev d 116 63 [l0, some (.int x), l2] [.int s0] σ Q = Ev d 116 64 [l0, some (.int x), l2] [.int x, .int s0] σ Q := ev_A1 d116_63 rfl
theorem d116_64 : decode (ab_C 116) 64 = .ok (.invokestatic 154, 3) := by decide +kernel
theorem e116_64 {d : Nat} {l0 l1 l2 : Option Value} {s0 : Int32} {s1 : Int32} {σ : ab_St} {Q : Option Value → ab_St → Prop} : Ev (d + 1) 116 64 [l0, l1, l2] [.int s0, .int s1] σ Q = Ev d 113 0 [some (.int s1), some (.int s0)] [] σ (fun r σ2 => Ev (d + 1) 116 67 [l0, l1, l2] (r.toList ++ []) σ2 Q) := ev_K0 (y := 113) (ls := [l0, l1, l2]) (st := [.int s0, .int s1]) (as := [.int s1, .int s0]) (rest := []) d116_64 rfl rfl rfl rfl rfl rfl rfl rfl
theorem d116_67 : decode (ab_C 116) 67 = .ok (.ifCond .eq 7, 3) := by decide +kernel
theorem e116_67 {d : Nat} {l0 l1 l2 : Option Value} {s0 : Int32} {σ : ab_St} {Q : Option Value → ab_St → Prop} : Ev d 116 67 [l0, l1, l2] [.int s0] σ Q = if s0 = 0 then Ev d 116 74 [l0, l1, l2] [] σ Q else Ev d 116 70 [l0, l1, l2] [] σ Q := ev_B (c := s0 = 0) d116_67 rfl rfl rfl rfl rfl
theorem d116_70 : decode (ab_C 116) 70 = .ok (.iconst 1, 1) := by decide +kernel
theorem e116_70 {d : Nat} {l0 l1 l2 : Option Value} {σ : ab_St} {Q : Option Value → ab_St → Prop} : Ev d 116 70 [l0, l1, l2] [] σ Q = Ev d 116 71 [l0, l1, l2] [.int 1] σ Q := ev_A1 d116_70 rfl
theorem d116_71 : decode (ab_C 116) 71 = .ok (.goto 4, 3) := by decide +kernel
theorem e116_71 {d : Nat} {l0 l1 l2 : Option Value} {s0 : Int32} {σ : ab_St} {Q : Option Value → ab_St → Prop} : Ev d 116 71 [l0, l1, l2] [.int s0] σ Q = Ev d 116 75 [l0, l1, l2] [.int s0] σ Q := ev_J d116_71 rfl rfl rfl rfl rfl
theorem d116_74 : decode (ab_C 116) 74 = .ok (.iconst 0, 1) := by decide +kernel
theorem e116_74 {d : Nat} {l0 l1 l2 : Option Value} {σ : ab_St} {Q : Option Value → ab_St → Prop} : Ev d 116 74 [l0, l1, l2] [] σ Q = Ev d 116 75 [l0, l1, l2] [.int 0] σ Q := ev_A1 d116_74 rfl
theorem d116_75 : decode (ab_C 116) 75 = .ok (.ireturn, 1) := by decide +kernel
theorem e116_75 {d : Nat} {l0 l1 l2 : Option Value} {s0 : Int32} {σ : ab_St} {Q : Option Value → ab_St → Prop} : Ev d 116 75 [l0, l1, l2] [.int s0] σ Q = Q (some (.int s0)) σ := ev_E d116_75 rfl rfl rfl rfl rfl rfl rfl
theorem d116_76 : decode (ab_C 116) 76 = .ok (.aload_n 0, 1) := by decide +kernel
theorem e116_76 {d : Nat} {l1 l2 : Option Value} {x : Nat} {σ : ab_St} {Q : Option Value → ab_St → Prop} : Ev d 116 76 [some (.ref x), l1, l2] [] σ Q = Ev d 116 77 [some (.ref x), l1, l2] [.ref x] σ Q := ev_A1 d116_76 rfl
theorem d116_77 : decode (ab_C 116) 77 = .ok (.invokevirtual 161, 3) := by decide +kernel
theorem e116_77 {d : Nat} {l0 l1 l2 : Option Value} {s0 : Nat} {σ : ab_St} {Q : Option Value → ab_St → Prop} : Ev (d + 1) 116 77 [l0, l1, l2] [.ref s0] σ Q = (ab_k s0 = 10 ∧ Ev d 114 0 [some (.ref s0), none, none, none] [] σ (fun r σ2 => Ev (d + 1) 116 80 [l0, l1, l2] (r.toList ++ []) σ2 Q)) := ev_KV (b := s0) (ls := [l0, l1, l2]) (st := [.ref s0]) (as := []) (rest := []) d116_77 rfl rfl rfl (Nat.le_of_ble_eq_true rfl) (Nat.le_of_ble_eq_true rfl) (Nat.le_of_ble_eq_true rfl) rfl rfl rfl rfl rfl rfl rfl
theorem d116_80 : decode (ab_C 116) 80 = .ok (.iload_n 1, 1) := by decide +kernel
theorem e116_80 {d : Nat} {l0 l2 : Option Value} {x : Int32} {s0 : Int32} {σ : ab_St} {Q : Option Value → ab_St → Prop} : Ev d 116 80 [l0, some (.int x), l2] [.int s0] σ Q = Ev d 116 81 [l0, some (.int x), l2] [.int x, .int s0] σ Q := ev_A1 d116_80 rfl
theorem d116_81 : decode (ab_C 116) 81 = .ok (.invokestatic 154, 3) := by decide +kernel
theorem e116_81 {d : Nat} {l0 l1 l2 : Option Value} {s0 : Int32} {s1 : Int32} {σ : ab_St} {Q : Option Value → ab_St → Prop} : Ev (d + 1) 116 81 [l0, l1, l2] [.int s0, .int s1] σ Q = Ev d 113 0 [some (.int s1), some (.int s0)] [] σ (fun r σ2 => Ev (d + 1) 116 84 [l0, l1, l2] (r.toList ++ []) σ2 Q) := ev_K0 (y := 113) (ls := [l0, l1, l2]) (st := [.int s0, .int s1]) (as := [.int s1, .int s0]) (rest := []) d116_81 rfl rfl rfl rfl rfl rfl rfl rfl
theorem d116_84 : decode (ab_C 116) 84 = .ok (.ifCond .eq 7, 3) := by decide +kernel
theorem e116_84 {d : Nat} {l0 l1 l2 : Option Value} {s0 : Int32} {σ : ab_St} {Q : Option Value → ab_St → Prop} : Ev d 116 84 [l0, l1, l2] [.int s0] σ Q = if s0 = 0 then Ev d 116 91 [l0, l1, l2] [] σ Q else Ev d 116 87 [l0, l1, l2] [] σ Q := ev_B (c := s0 = 0) d116_84 rfl rfl rfl rfl rfl
theorem d116_87 : decode (ab_C 116) 87 = .ok (.iconst 1, 1) := by decide +kernel
theorem e116_87 {d : Nat} {l0 l1 l2 : Option Value} {σ : ab_St} {Q : Option Value → ab_St → Prop} : Ev d 116 87 [l0, l1, l2] [] σ Q = Ev d 116 88 [l0, l1, l2] [.int 1] σ Q := ev_A1 d116_87 rfl
theorem d116_88 : decode (ab_C 116) 88 = .ok (.goto 4, 3) := by decide +kernel
theorem e116_88 {d : Nat} {l0 l1 l2 : Option Value} {s0 : Int32} {σ : ab_St} {Q : Option Value → ab_St → Prop} : Ev d 116 88 [l0, l1, l2] [.int s0] σ Q = Ev d 116 92 [l0, l1, l2] [.int s0] σ Q := ev_J d116_88 rfl rfl rfl rfl rfl
theorem d116_91 : decode (ab_C 116) 91 = .ok (.iconst 0, 1) := by decide +kernel
theorem e116_91 {d : Nat} {l0 l1 l2 : Option Value} {σ : ab_St} {Q : Option Value → ab_St → Prop} : Ev d 116 91 [l0, l1, l2] [] σ Q = Ev d 116 92 [l0, l1, l2] [.int 0] σ Q := ev_A1 d116_91 rfl
theorem d116_92 : decode (ab_C 116) 92 = .ok (.ireturn, 1) := by decide +kernel
theorem e116_92 {d : Nat} {l0 l1 l2 : Option Value} {s0 : Int32} {σ : ab_St} {Q : Option Value → ab_St → Prop} : Ev d 116 92 [l0, l1, l2] [.int s0] σ Q = Q (some (.int s0)) σ := ev_E d116_92 rfl rfl rfl rfl rfl rfl rfl
theorem d116_93 : decode (ab_C 116) 93 = .ok (.aload_n 0, 1) := by decide +kernel
theorem e116_93 {d : Nat} {l1 l2 : Option Value} {x : Nat} {σ : ab_St} {Q : Option Value → ab_St → Prop} : Ev d 116 93 [some (.ref x), l1, l2] [] σ Q = Ev d 116 94 [some (.ref x), l1, l2] [.ref x] σ Q := ev_A1 d116_93 rfl
theorem d116_94 : decode (ab_C 116) 94 = .ok (.aload_n 0, 1) := by decide +kernel
theorem e116_94 {d : Nat} {l1 l2 : Option Value} {x : Nat} {s0 : Nat} {σ : ab_St} {Q : Option Value → ab_St → Prop} : Ev d 116 94 [some (.ref x), l1, l2] [.ref s0] σ Q = Ev d 116 95 [some (.ref x), l1, l2] [.ref x, .ref s0] σ Q := ev_A1 d116_94 rfl
theorem d116_95 : decode (ab_C 116) 95 = .ok (.getfield 141, 3) := by decide +kernel
theorem e116_95 {d : Nat} {l0 l1 l2 : Option Value} {s0 : Nat} {s1 : Nat} {σ : ab_St} {Q : Option Value → ab_St → Prop} : Ev d 116 95 [l0, l1, l2] [.ref s0, .ref s1] σ Q = (ab_k s0 = 10 ∧ Ev d 116 98 [l0, l1, l2] [.int (σ.1 s0 13), .ref s1] σ Q) := ev_Hc (c := ab_k s0 = 10) d116_95 rfl rfl rfl rfl rfl rfl rfl rfl
theorem d116_98 : decode (ab_C 116) 98 = .ok (.iload_n 1, 1) := by decide +kernel
theorem e116_98 {d : Nat} {l0 l2 : Option Value} {x : Int32} {s0 : Int32} {s1 : Nat} {σ : ab_St} {Q : Option Value → ab_St → Prop} : Ev d 116 98 [l0, some (.int x), l2] [.int s0, .ref s1] σ Q = Ev d 116 99 [l0, some (.int x), l2] [.int x, .int s0, .ref s1] σ Q := ev_A1 d116_98 rfl
theorem d116_99 : decode (ab_C 116) 99 = .ok (.invokevirtual 164, 3) := by decide +kernel
theorem e116_99 {d : Nat} {l0 l1 l2 : Option Value} {s0 : Int32} {s1 : Int32} {s2 : Nat} {σ : ab_St} {Q : Option Value → ab_St → Prop} : Ev (d + 1) 116 99 [l0, l1, l2] [.int s0, .int s1, .ref s2] σ Q = (ab_k s2 = 10 ∧ Ev d 115 0 [some (.ref s2), some (.int s1), some (.int s0), none, none] [] σ (fun r σ2 => Ev (d + 1) 116 102 [l0, l1, l2] (r.toList ++ []) σ2 Q)) := ev_KV (b := s2) (ls := [l0, l1, l2]) (st := [.int s0, .int s1, .ref s2]) (as := [.int s1, .int s0]) (rest := []) d116_99 rfl rfl rfl (Nat.le_of_ble_eq_true rfl) (Nat.le_of_ble_eq_true rfl) (Nat.le_of_ble_eq_true rfl) rfl rfl rfl rfl rfl rfl rfl
theorem d116_102 : decode (ab_C 116) 102 = .ok (.ireturn, 1) := by decide +kernel
theorem e116_102 {d : Nat} {l0 l1 l2 : Option Value} {s0 : Int32} {σ : ab_St} {Q : Option Value → ab_St → Prop} : Ev d 116 102 [l0, l1, l2] [.int s0] σ Q = Q (some (.int s0)) σ := ev_E d116_102 rfl rfl rfl rfl rfl rfl rfl
theorem d116_103 : decode (ab_C 116) 103 = .ok (.bipush (-2), 2) := by decide +kernel
theorem e116_103 {d : Nat} {l0 l1 l2 : Option Value} {σ : ab_St} {Q : Option Value → ab_St → Prop} : Ev d 116 103 [l0, l1, l2] [] σ Q = Ev d 116 105 [l0, l1, l2] [.int (-2)] σ Q := ev_A1 d116_103 rfl
theorem d116_105 : decode (ab_C 116) 105 = .ok (.ireturn, 1) := by decide +kernel
theorem e116_105 {d : Nat} {l0 l1 l2 : Option Value} {s0 : Int32} {σ : ab_St} {Q : Option Value → ab_St → Prop} : Ev d 116 105 [l0, l1, l2] [.int s0] σ Q = Q (some (.int s0)) σ := ev_E d116_105 rfl rfl rfl rfl rfl rfl rfl
/-! SaidLeastModel.noOne(I)Z -/
theorem d117_0 : decode (ab_C 117) 0 = .ok (.iload_n 1, 1) := by decide +kernel
theorem e117_0 {d : Nat} {l0 : Option Value} {x : Int32} {σ : ab_St} {Q : Option Value → ab_St → Prop} : Ev d 117 0 [l0, some (.int x)] [] σ Q = Ev d 117 1 [l0, some (.int x)] [.int x] σ Q := ev_A1 d117_0 rfl
theorem d117_1 : decode (ab_C 117) 1 = .ok (.i2l, 1) := by decide +kernel
theorem e117_1 {d : Nat} {l0 l1 : Option Value} {s0 : Int32} {σ : ab_St} {Q : Option Value → ab_St → Prop} : Ev d 117 1 [l0, l1] [.int s0] σ Q = Ev d 117 2 [l0, l1] [.long s0.toInt64] σ Q := ev_A2 d117_1 rfl rfl
theorem d117_2 : decode (ab_C 117) 2 = .ok (.lconst 0, 1) := by decide +kernel
theorem e117_2 {d : Nat} {l0 l1 : Option Value} {s0 : Int64} {σ : ab_St} {Q : Option Value → ab_St → Prop} : Ev d 117 2 [l0, l1] [.long s0] σ Q = Ev d 117 3 [l0, l1] [.long 0, .long s0] σ Q := ev_A1 d117_2 rfl
theorem d117_3 : decode (ab_C 117) 3 = .ok (.aload_n 0, 1) := by decide +kernel
theorem e117_3 {d : Nat} {l1 : Option Value} {x : Nat} {s0 : Int64} {s1 : Int64} {σ : ab_St} {Q : Option Value → ab_St → Prop} : Ev d 117 3 [some (.ref x), l1] [.long s0, .long s1] σ Q = Ev d 117 4 [some (.ref x), l1] [.ref x, .long s0, .long s1] σ Q := ev_A1 d117_3 rfl
theorem d117_4 : decode (ab_C 117) 4 = .ok (.getfield 82, 3) := by decide +kernel
theorem e117_4 {d : Nat} {l0 l1 : Option Value} {s0 : Nat} {s1 : Int64} {s2 : Int64} {σ : ab_St} {Q : Option Value → ab_St → Prop} : Ev d 117 4 [l0, l1] [.ref s0, .long s1, .long s2] σ Q = (ab_k s0 = 10 ∧ Ev d 117 7 [l0, l1] [.int (σ.1 s0 5), .long s1, .long s2] σ Q) := ev_Hc (c := ab_k s0 = 10) d117_4 rfl rfl rfl rfl rfl rfl rfl rfl
theorem d117_7 : decode (ab_C 117) 7 = .ok (.iconst 1, 1) := by decide +kernel
theorem e117_7 {d : Nat} {l0 l1 : Option Value} {s0 : Int32} {s1 : Int64} {s2 : Int64} {σ : ab_St} {Q : Option Value → ab_St → Prop} : Ev d 117 7 [l0, l1] [.int s0, .long s1, .long s2] σ Q = Ev d 117 8 [l0, l1] [.int 1, .int s0, .long s1, .long s2] σ Q := ev_A1 d117_7 rfl
theorem d117_8 : decode (ab_C 117) 8 = .ok (.isub, 1) := by decide +kernel
theorem e117_8 {d : Nat} {l0 l1 : Option Value} {s0 : Int32} {s1 : Int32} {s2 : Int64} {s3 : Int64} {σ : ab_St} {Q : Option Value → ab_St → Prop} : Ev d 117 8 [l0, l1] [.int s0, .int s1, .long s2, .long s3] σ Q = Ev d 117 9 [l0, l1] [.int (s1 - s0), .long s2, .long s3] σ Q := ev_A2 d117_8 rfl rfl
theorem d117_9 : decode (ab_C 117) 9 = .ok (.i2l, 1) := by decide +kernel
theorem e117_9 {d : Nat} {l0 l1 : Option Value} {s0 : Int32} {s1 : Int64} {s2 : Int64} {σ : ab_St} {Q : Option Value → ab_St → Prop} : Ev d 117 9 [l0, l1] [.int s0, .long s1, .long s2] σ Q = Ev d 117 10 [l0, l1] [.long s0.toInt64, .long s1, .long s2] σ Q := ev_A2 d117_9 rfl rfl
theorem d117_10 : decode (ab_C 117) 10 = .ok (.invokestatic 85, 3) := by decide +kernel
theorem e117_10 {d : Nat} {l0 l1 : Option Value} {s0 : Int64} {s1 : Int64} {s2 : Int64} {σ : ab_St} {Q : Option Value → ab_St → Prop} : Ev (d + 1) 117 10 [l0, l1] [.long s0, .long s1, .long s2] σ Q = Ev d 101 0 [some (.long s2), none, some (.long s1), none, some (.long s0), none] [] σ (fun r σ2 => Ev (d + 1) 117 13 [l0, l1] (r.toList ++ []) σ2 Q) := ev_K0 (y := 101) (ls := [l0, l1]) (st := [.long s0, .long s1, .long s2]) (as := [.long s2, .long s1, .long s0]) (rest := []) d117_10 rfl rfl rfl rfl rfl rfl rfl rfl
theorem d117_13 : decode (ab_C 117) 13 = .ok (.ifCond .ne 7, 3) := by decide +kernel
theorem e117_13 {d : Nat} {l0 l1 : Option Value} {s0 : Int32} {σ : ab_St} {Q : Option Value → ab_St → Prop} : Ev d 117 13 [l0, l1] [.int s0] σ Q = if s0 = 0 then Ev d 117 16 [l0, l1] [] σ Q else Ev d 117 20 [l0, l1] [] σ Q := ev_B (c := s0 = 0) d117_13 rfl rfl rfl rfl rfl
theorem d117_16 : decode (ab_C 117) 16 = .ok (.iconst 1, 1) := by decide +kernel
theorem e117_16 {d : Nat} {l0 l1 : Option Value} {σ : ab_St} {Q : Option Value → ab_St → Prop} : Ev d 117 16 [l0, l1] [] σ Q = Ev d 117 17 [l0, l1] [.int 1] σ Q := ev_A1 d117_16 rfl
theorem d117_17 : decode (ab_C 117) 17 = .ok (.goto 4, 3) := by decide +kernel
theorem e117_17 {d : Nat} {l0 l1 : Option Value} {s0 : Int32} {σ : ab_St} {Q : Option Value → ab_St → Prop} : Ev d 117 17 [l0, l1] [.int s0] σ Q = Ev d 117 21 [l0, l1] [.int s0] σ Q := ev_J d117_17 rfl rfl rfl rfl rfl
theorem d117_20 : decode (ab_C 117) 20 = .ok (.iconst 0, 1) := by decide +kernel
theorem e117_20 {d : Nat} {l0 l1 : Option Value} {σ : ab_St} {Q : Option Value → ab_St → Prop} : Ev d 117 20 [l0, l1] [] σ Q = Ev d 117 21 [l0, l1] [.int 0] σ Q := ev_A1 d117_20 rfl
theorem d117_21 : decode (ab_C 117) 21 = .ok (.ireturn, 1) := by decide +kernel
theorem e117_21 {d : Nat} {l0 l1 : Option Value} {s0 : Int32} {σ : ab_St} {Q : Option Value → ab_St → Prop} : Ev d 117 21 [l0, l1] [.int s0] σ Q = ((s0 = 0 ∨ s0 = 1) ∧ Q (some (.int s0)) σ) := ev_Z d117_21 rfl
/-! SaidLeastModel.saying(II)I -/
theorem d118_0 : decode (ab_C 118) 0 = .ok (.aload_n 0, 1) := by decide +kernel
theorem e118_0 {d : Nat} {l1 l2 : Option Value} {x : Nat} {σ : ab_St} {Q : Option Value → ab_St → Prop} : Ev d 118 0 [some (.ref x), l1, l2] [] σ Q = Ev d 118 1 [some (.ref x), l1, l2] [.ref x] σ Q := ev_A1 d118_0 rfl
theorem d118_1 : decode (ab_C 118) 1 = .ok (.iconst 0, 1) := by decide +kernel
theorem e118_1 {d : Nat} {l0 l1 l2 : Option Value} {s0 : Nat} {σ : ab_St} {Q : Option Value → ab_St → Prop} : Ev d 118 1 [l0, l1, l2] [.ref s0] σ Q = Ev d 118 2 [l0, l1, l2] [.int 0, .ref s0] σ Q := ev_A1 d118_1 rfl
theorem d118_2 : decode (ab_C 118) 2 = .ok (.putfield 79, 3) := by decide +kernel
theorem e118_2 {d : Nat} {l0 l1 l2 : Option Value} {s0 : Int32} {s1 : Nat} {σ : ab_St} {Q : Option Value → ab_St → Prop} : Ev d 118 2 [l0, l1, l2] [.int s0, .ref s1] σ Q = (ab_k s1 = 10 ∧ Ev d 118 5 [l0, l1, l2] [] (ab_wI σ s1 (upd (σ.1 s1) 0 s0)) Q) := ev_Hc (c := ab_k s1 = 10) d118_2 rfl rfl rfl rfl rfl rfl rfl rfl
theorem d118_5 : decode (ab_C 118) 5 = .ok (.aload_n 0, 1) := by decide +kernel
theorem e118_5 {d : Nat} {l1 l2 : Option Value} {x : Nat} {σ : ab_St} {Q : Option Value → ab_St → Prop} : Ev d 118 5 [some (.ref x), l1, l2] [] σ Q = Ev d 118 6 [some (.ref x), l1, l2] [.ref x] σ Q := ev_A1 d118_5 rfl
theorem d118_6 : decode (ab_C 118) 6 = .ok (.iload_n 1, 1) := by decide +kernel
theorem e118_6 {d : Nat} {l0 l2 : Option Value} {x : Int32} {s0 : Nat} {σ : ab_St} {Q : Option Value → ab_St → Prop} : Ev d 118 6 [l0, some (.int x), l2] [.ref s0] σ Q = Ev d 118 7 [l0, some (.int x), l2] [.int x, .ref s0] σ Q := ev_A1 d118_6 rfl
theorem d118_7 : decode (ab_C 118) 7 = .ok (.invokevirtual 170, 3) := by decide +kernel
theorem e118_7 {d : Nat} {l0 l1 l2 : Option Value} {s0 : Int32} {s1 : Nat} {σ : ab_St} {Q : Option Value → ab_St → Prop} : Ev (d + 1) 118 7 [l0, l1, l2] [.int s0, .ref s1] σ Q = (ab_k s1 = 10 ∧ Ev d 119 0 [some (.ref s1), some (.int s0)] [] σ (fun r σ2 => Ev (d + 1) 118 10 [l0, l1, l2] (r.toList ++ []) σ2 Q)) := ev_KV (b := s1) (ls := [l0, l1, l2]) (st := [.int s0, .ref s1]) (as := [.int s0]) (rest := []) d118_7 rfl rfl rfl (Nat.le_of_ble_eq_true rfl) (Nat.le_of_ble_eq_true rfl) (Nat.le_of_ble_eq_true rfl) rfl rfl rfl rfl rfl rfl rfl
theorem d118_10 : decode (ab_C 118) 10 = .ok (.ifCond .eq 5, 3) := by decide +kernel
theorem e118_10 {d : Nat} {l0 l1 l2 : Option Value} {s0 : Int32} {σ : ab_St} {Q : Option Value → ab_St → Prop} : Ev d 118 10 [l0, l1, l2] [.int s0] σ Q = if s0 = 0 then Ev d 118 15 [l0, l1, l2] [] σ Q else Ev d 118 13 [l0, l1, l2] [] σ Q := ev_B (c := s0 = 0) d118_10 rfl rfl rfl rfl rfl
theorem d118_13 : decode (ab_C 118) 13 = .ok (.iconst (-1), 1) := by decide +kernel
theorem e118_13 {d : Nat} {l0 l1 l2 : Option Value} {σ : ab_St} {Q : Option Value → ab_St → Prop} : Ev d 118 13 [l0, l1, l2] [] σ Q = Ev d 118 14 [l0, l1, l2] [.int (-1)] σ Q := ev_A1 d118_13 rfl
theorem d118_14 : decode (ab_C 118) 14 = .ok (.ireturn, 1) := by decide +kernel
theorem e118_14 {d : Nat} {l0 l1 l2 : Option Value} {s0 : Int32} {σ : ab_St} {Q : Option Value → ab_St → Prop} : Ev d 118 14 [l0, l1, l2] [.int s0] σ Q = Q (some (.int s0)) σ := ev_E d118_14 rfl rfl rfl rfl rfl rfl rfl
theorem d118_15 : decode (ab_C 118) 15 = .ok (.iload_n 2, 1) := by decide +kernel
theorem e118_15 {d : Nat} {l0 l1 : Option Value} {x : Int32} {σ : ab_St} {Q : Option Value → ab_St → Prop} : Ev d 118 15 [l0, l1, some (.int x)] [] σ Q = Ev d 118 16 [l0, l1, some (.int x)] [.int x] σ Q := ev_A1 d118_15 rfl
theorem d118_16 : decode (ab_C 118) 16 = .ok (.tableswitch 81 0 4 #[36, 43, 50, 57, 64], 36) := by decide +kernel
theorem e118_16 {d : Nat} {l0 l1 l2 : Option Value} {s0 : Int32} {σ : ab_St} {Q : Option Value → ab_St → Prop} : Ev d 118 16 [l0, l1, l2] [.int s0] σ Q = if s0 = 0 then Ev d 118 52 [l0, l1, l2] [] σ Q else if s0 = 1 then Ev d 118 59 [l0, l1, l2] [] σ Q else if s0 = 2 then Ev d 118 66 [l0, l1, l2] [] σ Q else if s0 = 3 then Ev d 118 73 [l0, l1, l2] [] σ Q else if s0 = 4 then Ev d 118 80 [l0, l1, l2] [] σ Q else Ev d 118 97 [l0, l1, l2] [] σ Q := ev_T (ts := [52, 59, 66, 73, 80]) (df := 97) d118_16 (by decide +kernel)
theorem d118_52 : decode (ab_C 118) 52 = .ok (.aload_n 0, 1) := by decide +kernel
theorem e118_52 {d : Nat} {l1 l2 : Option Value} {x : Nat} {σ : ab_St} {Q : Option Value → ab_St → Prop} : Ev d 118 52 [some (.ref x), l1, l2] [] σ Q = Ev d 118 53 [some (.ref x), l1, l2] [.ref x] σ Q := ev_A1 d118_52 rfl
theorem d118_53 : decode (ab_C 118) 53 = .ok (.getfield 16, 3) := by decide +kernel
theorem e118_53 {d : Nat} {l0 l1 l2 : Option Value} {s0 : Nat} {σ : ab_St} {Q : Option Value → ab_St → Prop} : Ev d 118 53 [l0, l1, l2] [.ref s0] σ Q = (ab_k s0 = 10 ∧ Ev d 118 56 [l0, l1, l2] [.ref (ab_r s0 9)] σ Q) := ev_Hc (c := ab_k s0 = 10) d118_53 rfl rfl rfl rfl rfl rfl rfl rfl
theorem d118_56 : decode (ab_C 118) 56 = .ok (.iload_n 1, 1) := by decide +kernel
theorem e118_56 {d : Nat} {l0 l2 : Option Value} {x : Int32} {s0 : Nat} {σ : ab_St} {Q : Option Value → ab_St → Prop} : Ev d 118 56 [l0, some (.int x), l2] [.ref s0] σ Q = Ev d 118 57 [l0, some (.int x), l2] [.int x, .ref s0] σ Q := ev_A1 d118_56 rfl
theorem d118_57 : decode (ab_C 118) 57 = .ok (.iaload, 1) := by decide +kernel
theorem e118_57 {d : Nat} {l0 l1 l2 : Option Value} {s0 : Int32} {s1 : Nat} {σ : ab_St} {Q : Option Value → ab_St → Prop} : Ev d 118 57 [l0, l1, l2] [.int s0, .ref s1] σ Q = ((ab_k s1 = 100 ∧ ab_in s0 (ab_n s1)) ∧ Ev d 118 58 [l0, l1, l2] [.int (σ.1 s1 s0.toNatClampNeg)] σ Q) := ev_Hc (c := ab_k s1 = 100 ∧ ab_in s0 (ab_n s1)) d118_57 rfl rfl rfl rfl rfl rfl rfl rfl
theorem d118_58 : decode (ab_C 118) 58 = .ok (.ireturn, 1) := by decide +kernel
theorem e118_58 {d : Nat} {l0 l1 l2 : Option Value} {s0 : Int32} {σ : ab_St} {Q : Option Value → ab_St → Prop} : Ev d 118 58 [l0, l1, l2] [.int s0] σ Q = Q (some (.int s0)) σ := ev_E d118_58 rfl rfl rfl rfl rfl rfl rfl
theorem d118_59 : decode (ab_C 118) 59 = .ok (.aload_n 0, 1) := by decide +kernel
theorem e118_59 {d : Nat} {l1 l2 : Option Value} {x : Nat} {σ : ab_St} {Q : Option Value → ab_St → Prop} : Ev d 118 59 [some (.ref x), l1, l2] [] σ Q = Ev d 118 60 [some (.ref x), l1, l2] [.ref x] σ Q := ev_A1 d118_59 rfl
theorem d118_60 : decode (ab_C 118) 60 = .ok (.getfield 19, 3) := by decide +kernel
theorem e118_60 {d : Nat} {l0 l1 l2 : Option Value} {s0 : Nat} {σ : ab_St} {Q : Option Value → ab_St → Prop} : Ev d 118 60 [l0, l1, l2] [.ref s0] σ Q = (ab_k s0 = 10 ∧ Ev d 118 63 [l0, l1, l2] [.ref (ab_r s0 10)] σ Q) := ev_Hc (c := ab_k s0 = 10) d118_60 rfl rfl rfl rfl rfl rfl rfl rfl
theorem d118_63 : decode (ab_C 118) 63 = .ok (.iload_n 1, 1) := by decide +kernel
theorem e118_63 {d : Nat} {l0 l2 : Option Value} {x : Int32} {s0 : Nat} {σ : ab_St} {Q : Option Value → ab_St → Prop} : Ev d 118 63 [l0, some (.int x), l2] [.ref s0] σ Q = Ev d 118 64 [l0, some (.int x), l2] [.int x, .ref s0] σ Q := ev_A1 d118_63 rfl
theorem d118_64 : decode (ab_C 118) 64 = .ok (.iaload, 1) := by decide +kernel
theorem e118_64 {d : Nat} {l0 l1 l2 : Option Value} {s0 : Int32} {s1 : Nat} {σ : ab_St} {Q : Option Value → ab_St → Prop} : Ev d 118 64 [l0, l1, l2] [.int s0, .ref s1] σ Q = ((ab_k s1 = 100 ∧ ab_in s0 (ab_n s1)) ∧ Ev d 118 65 [l0, l1, l2] [.int (σ.1 s1 s0.toNatClampNeg)] σ Q) := ev_Hc (c := ab_k s1 = 100 ∧ ab_in s0 (ab_n s1)) d118_64 rfl rfl rfl rfl rfl rfl rfl rfl
theorem d118_65 : decode (ab_C 118) 65 = .ok (.ireturn, 1) := by decide +kernel
theorem e118_65 {d : Nat} {l0 l1 l2 : Option Value} {s0 : Int32} {σ : ab_St} {Q : Option Value → ab_St → Prop} : Ev d 118 65 [l0, l1, l2] [.int s0] σ Q = Q (some (.int s0)) σ := ev_E d118_65 rfl rfl rfl rfl rfl rfl rfl
theorem d118_66 : decode (ab_C 118) 66 = .ok (.aload_n 0, 1) := by decide +kernel
theorem e118_66 {d : Nat} {l1 l2 : Option Value} {x : Nat} {σ : ab_St} {Q : Option Value → ab_St → Prop} : Ev d 118 66 [some (.ref x), l1, l2] [] σ Q = Ev d 118 67 [some (.ref x), l1, l2] [.ref x] σ Q := ev_A1 d118_66 rfl
theorem d118_67 : decode (ab_C 118) 67 = .ok (.getfield 22, 3) := by decide +kernel
theorem e118_67 {d : Nat} {l0 l1 l2 : Option Value} {s0 : Nat} {σ : ab_St} {Q : Option Value → ab_St → Prop} : Ev d 118 67 [l0, l1, l2] [.ref s0] σ Q = (ab_k s0 = 10 ∧ Ev d 118 70 [l0, l1, l2] [.ref (ab_r s0 11)] σ Q) := ev_Hc (c := ab_k s0 = 10) d118_67 rfl rfl rfl rfl rfl rfl rfl rfl
theorem d118_70 : decode (ab_C 118) 70 = .ok (.iload_n 1, 1) := by decide +kernel
theorem e118_70 {d : Nat} {l0 l2 : Option Value} {x : Int32} {s0 : Nat} {σ : ab_St} {Q : Option Value → ab_St → Prop} : Ev d 118 70 [l0, some (.int x), l2] [.ref s0] σ Q = Ev d 118 71 [l0, some (.int x), l2] [.int x, .ref s0] σ Q := ev_A1 d118_70 rfl
theorem d118_71 : decode (ab_C 118) 71 = .ok (.iaload, 1) := by decide +kernel
theorem e118_71 {d : Nat} {l0 l1 l2 : Option Value} {s0 : Int32} {s1 : Nat} {σ : ab_St} {Q : Option Value → ab_St → Prop} : Ev d 118 71 [l0, l1, l2] [.int s0, .ref s1] σ Q = ((ab_k s1 = 100 ∧ ab_in s0 (ab_n s1)) ∧ Ev d 118 72 [l0, l1, l2] [.int (σ.1 s1 s0.toNatClampNeg)] σ Q) := ev_Hc (c := ab_k s1 = 100 ∧ ab_in s0 (ab_n s1)) d118_71 rfl rfl rfl rfl rfl rfl rfl rfl
theorem d118_72 : decode (ab_C 118) 72 = .ok (.ireturn, 1) := by decide +kernel
theorem e118_72 {d : Nat} {l0 l1 l2 : Option Value} {s0 : Int32} {σ : ab_St} {Q : Option Value → ab_St → Prop} : Ev d 118 72 [l0, l1, l2] [.int s0] σ Q = Q (some (.int s0)) σ := ev_E d118_72 rfl rfl rfl rfl rfl rfl rfl
theorem d118_73 : decode (ab_C 118) 73 = .ok (.aload_n 0, 1) := by decide +kernel
theorem e118_73 {d : Nat} {l1 l2 : Option Value} {x : Nat} {σ : ab_St} {Q : Option Value → ab_St → Prop} : Ev d 118 73 [some (.ref x), l1, l2] [] σ Q = Ev d 118 74 [some (.ref x), l1, l2] [.ref x] σ Q := ev_A1 d118_73 rfl
theorem d118_74 : decode (ab_C 118) 74 = .ok (.getfield 25, 3) := by decide +kernel
theorem e118_74 {d : Nat} {l0 l1 l2 : Option Value} {s0 : Nat} {σ : ab_St} {Q : Option Value → ab_St → Prop} : Ev d 118 74 [l0, l1, l2] [.ref s0] σ Q = (ab_k s0 = 10 ∧ Ev d 118 77 [l0, l1, l2] [.ref (ab_r s0 12)] σ Q) := ev_Hc (c := ab_k s0 = 10) d118_74 rfl rfl rfl rfl rfl rfl rfl rfl
theorem d118_77 : decode (ab_C 118) 77 = .ok (.iload_n 1, 1) := by decide +kernel
theorem e118_77 {d : Nat} {l0 l2 : Option Value} {x : Int32} {s0 : Nat} {σ : ab_St} {Q : Option Value → ab_St → Prop} : Ev d 118 77 [l0, some (.int x), l2] [.ref s0] σ Q = Ev d 118 78 [l0, some (.int x), l2] [.int x, .ref s0] σ Q := ev_A1 d118_77 rfl
theorem d118_78 : decode (ab_C 118) 78 = .ok (.iaload, 1) := by decide +kernel
theorem e118_78 {d : Nat} {l0 l1 l2 : Option Value} {s0 : Int32} {s1 : Nat} {σ : ab_St} {Q : Option Value → ab_St → Prop} : Ev d 118 78 [l0, l1, l2] [.int s0, .ref s1] σ Q = ((ab_k s1 = 100 ∧ ab_in s0 (ab_n s1)) ∧ Ev d 118 79 [l0, l1, l2] [.int (σ.1 s1 s0.toNatClampNeg)] σ Q) := ev_Hc (c := ab_k s1 = 100 ∧ ab_in s0 (ab_n s1)) d118_78 rfl rfl rfl rfl rfl rfl rfl rfl
theorem d118_79 : decode (ab_C 118) 79 = .ok (.ireturn, 1) := by decide +kernel
theorem e118_79 {d : Nat} {l0 l1 l2 : Option Value} {s0 : Int32} {σ : ab_St} {Q : Option Value → ab_St → Prop} : Ev d 118 79 [l0, l1, l2] [.int s0] σ Q = Q (some (.int s0)) σ := ev_E d118_79 rfl rfl rfl rfl rfl rfl rfl
theorem d118_80 : decode (ab_C 118) 80 = .ok (.aload_n 0, 1) := by decide +kernel
theorem e118_80 {d : Nat} {l1 l2 : Option Value} {x : Nat} {σ : ab_St} {Q : Option Value → ab_St → Prop} : Ev d 118 80 [some (.ref x), l1, l2] [] σ Q = Ev d 118 81 [some (.ref x), l1, l2] [.ref x] σ Q := ev_A1 d118_80 rfl
theorem d118_81 : decode (ab_C 118) 81 = .ok (.getfield 141, 3) := by decide +kernel
theorem e118_81 {d : Nat} {l0 l1 l2 : Option Value} {s0 : Nat} {σ : ab_St} {Q : Option Value → ab_St → Prop} : Ev d 118 81 [l0, l1, l2] [.ref s0] σ Q = (ab_k s0 = 10 ∧ Ev d 118 84 [l0, l1, l2] [.int (σ.1 s0 13)] σ Q) := ev_Hc (c := ab_k s0 = 10) d118_81 rfl rfl rfl rfl rfl rfl rfl rfl
theorem d118_84 : decode (ab_C 118) 84 = .ok (.iload_n 1, 1) := by decide +kernel
theorem e118_84 {d : Nat} {l0 l2 : Option Value} {x : Int32} {s0 : Int32} {σ : ab_St} {Q : Option Value → ab_St → Prop} : Ev d 118 84 [l0, some (.int x), l2] [.int s0] σ Q = Ev d 118 85 [l0, some (.int x), l2] [.int x, .int s0] σ Q := ev_A1 d118_84 rfl
theorem d118_85 : decode (ab_C 118) 85 = .ok (.invokestatic 154, 3) := by decide +kernel
theorem e118_85 {d : Nat} {l0 l1 l2 : Option Value} {s0 : Int32} {s1 : Int32} {σ : ab_St} {Q : Option Value → ab_St → Prop} : Ev (d + 1) 118 85 [l0, l1, l2] [.int s0, .int s1] σ Q = Ev d 113 0 [some (.int s1), some (.int s0)] [] σ (fun r σ2 => Ev (d + 1) 118 88 [l0, l1, l2] (r.toList ++ []) σ2 Q) := ev_K0 (y := 113) (ls := [l0, l1, l2]) (st := [.int s0, .int s1]) (as := [.int s1, .int s0]) (rest := []) d118_85 rfl rfl rfl rfl rfl rfl rfl rfl
theorem d118_88 : decode (ab_C 118) 88 = .ok (.ifCond .eq 7, 3) := by decide +kernel
theorem e118_88 {d : Nat} {l0 l1 l2 : Option Value} {s0 : Int32} {σ : ab_St} {Q : Option Value → ab_St → Prop} : Ev d 118 88 [l0, l1, l2] [.int s0] σ Q = if s0 = 0 then Ev d 118 95 [l0, l1, l2] [] σ Q else Ev d 118 91 [l0, l1, l2] [] σ Q := ev_B (c := s0 = 0) d118_88 rfl rfl rfl rfl rfl
theorem d118_91 : decode (ab_C 118) 91 = .ok (.iconst 1, 1) := by decide +kernel
theorem e118_91 {d : Nat} {l0 l1 l2 : Option Value} {σ : ab_St} {Q : Option Value → ab_St → Prop} : Ev d 118 91 [l0, l1, l2] [] σ Q = Ev d 118 92 [l0, l1, l2] [.int 1] σ Q := ev_A1 d118_91 rfl
theorem d118_92 : decode (ab_C 118) 92 = .ok (.goto 4, 3) := by decide +kernel
theorem e118_92 {d : Nat} {l0 l1 l2 : Option Value} {s0 : Int32} {σ : ab_St} {Q : Option Value → ab_St → Prop} : Ev d 118 92 [l0, l1, l2] [.int s0] σ Q = Ev d 118 96 [l0, l1, l2] [.int s0] σ Q := ev_J d118_92 rfl rfl rfl rfl rfl
theorem d118_95 : decode (ab_C 118) 95 = .ok (.iconst 0, 1) := by decide +kernel
theorem e118_95 {d : Nat} {l0 l1 l2 : Option Value} {σ : ab_St} {Q : Option Value → ab_St → Prop} : Ev d 118 95 [l0, l1, l2] [] σ Q = Ev d 118 96 [l0, l1, l2] [.int 0] σ Q := ev_A1 d118_95 rfl
theorem d118_96 : decode (ab_C 118) 96 = .ok (.ireturn, 1) := by decide +kernel
theorem e118_96 {d : Nat} {l0 l1 l2 : Option Value} {s0 : Int32} {σ : ab_St} {Q : Option Value → ab_St → Prop} : Ev d 118 96 [l0, l1, l2] [.int s0] σ Q = Q (some (.int s0)) σ := ev_E d118_96 rfl rfl rfl rfl rfl rfl rfl
theorem d118_97 : decode (ab_C 118) 97 = .ok (.bipush (-2), 2) := by decide +kernel
theorem e118_97 {d : Nat} {l0 l1 l2 : Option Value} {σ : ab_St} {Q : Option Value → ab_St → Prop} : Ev d 118 97 [l0, l1, l2] [] σ Q = Ev d 118 99 [l0, l1, l2] [.int (-2)] σ Q := ev_A1 d118_97 rfl
theorem d118_99 : decode (ab_C 118) 99 = .ok (.ireturn, 1) := by decide +kernel
theorem e118_99 {d : Nat} {l0 l1 l2 : Option Value} {s0 : Int32} {σ : ab_St} {Q : Option Value → ab_St → Prop} : Ev d 118 99 [l0, l1, l2] [.int s0] σ Q = Q (some (.int s0)) σ := ev_E d118_99 rfl rfl rfl rfl rfl rfl rfl
/-! SaidLeastModel.noSaying(I)Z -/
theorem d119_0 : decode (ab_C 119) 0 = .ok (.iload_n 1, 1) := by decide +kernel
theorem e119_0 {d : Nat} {l0 : Option Value} {x : Int32} {σ : ab_St} {Q : Option Value → ab_St → Prop} : Ev d 119 0 [l0, some (.int x)] [] σ Q = Ev d 119 1 [l0, some (.int x)] [.int x] σ Q := ev_A1 d119_0 rfl
theorem d119_1 : decode (ab_C 119) 1 = .ok (.i2l, 1) := by decide +kernel
theorem e119_1 {d : Nat} {l0 l1 : Option Value} {s0 : Int32} {σ : ab_St} {Q : Option Value → ab_St → Prop} : Ev d 119 1 [l0, l1] [.int s0] σ Q = Ev d 119 2 [l0, l1] [.long s0.toInt64] σ Q := ev_A2 d119_1 rfl rfl
theorem d119_2 : decode (ab_C 119) 2 = .ok (.lconst 0, 1) := by decide +kernel
theorem e119_2 {d : Nat} {l0 l1 : Option Value} {s0 : Int64} {σ : ab_St} {Q : Option Value → ab_St → Prop} : Ev d 119 2 [l0, l1] [.long s0] σ Q = Ev d 119 3 [l0, l1] [.long 0, .long s0] σ Q := ev_A1 d119_2 rfl
theorem d119_3 : decode (ab_C 119) 3 = .ok (.aload_n 0, 1) := by decide +kernel
theorem e119_3 {d : Nat} {l1 : Option Value} {x : Nat} {s0 : Int64} {s1 : Int64} {σ : ab_St} {Q : Option Value → ab_St → Prop} : Ev d 119 3 [some (.ref x), l1] [.long s0, .long s1] σ Q = Ev d 119 4 [some (.ref x), l1] [.ref x, .long s0, .long s1] σ Q := ev_A1 d119_3 rfl
theorem d119_4 : decode (ab_C 119) 4 = .ok (.getfield 89, 3) := by decide +kernel
theorem e119_4 {d : Nat} {l0 l1 : Option Value} {s0 : Nat} {s1 : Int64} {s2 : Int64} {σ : ab_St} {Q : Option Value → ab_St → Prop} : Ev d 119 4 [l0, l1] [.ref s0, .long s1, .long s2] σ Q = (ab_k s0 = 10 ∧ Ev d 119 7 [l0, l1] [.int (σ.1 s0 8), .long s1, .long s2] σ Q) := ev_Hc (c := ab_k s0 = 10) d119_4 rfl rfl rfl rfl rfl rfl rfl rfl
theorem d119_7 : decode (ab_C 119) 7 = .ok (.iconst 1, 1) := by decide +kernel
theorem e119_7 {d : Nat} {l0 l1 : Option Value} {s0 : Int32} {s1 : Int64} {s2 : Int64} {σ : ab_St} {Q : Option Value → ab_St → Prop} : Ev d 119 7 [l0, l1] [.int s0, .long s1, .long s2] σ Q = Ev d 119 8 [l0, l1] [.int 1, .int s0, .long s1, .long s2] σ Q := ev_A1 d119_7 rfl
theorem d119_8 : decode (ab_C 119) 8 = .ok (.isub, 1) := by decide +kernel
theorem e119_8 {d : Nat} {l0 l1 : Option Value} {s0 : Int32} {s1 : Int32} {s2 : Int64} {s3 : Int64} {σ : ab_St} {Q : Option Value → ab_St → Prop} : Ev d 119 8 [l0, l1] [.int s0, .int s1, .long s2, .long s3] σ Q = Ev d 119 9 [l0, l1] [.int (s1 - s0), .long s2, .long s3] σ Q := ev_A2 d119_8 rfl rfl
theorem d119_9 : decode (ab_C 119) 9 = .ok (.i2l, 1) := by decide +kernel
theorem e119_9 {d : Nat} {l0 l1 : Option Value} {s0 : Int32} {s1 : Int64} {s2 : Int64} {σ : ab_St} {Q : Option Value → ab_St → Prop} : Ev d 119 9 [l0, l1] [.int s0, .long s1, .long s2] σ Q = Ev d 119 10 [l0, l1] [.long s0.toInt64, .long s1, .long s2] σ Q := ev_A2 d119_9 rfl rfl
theorem d119_10 : decode (ab_C 119) 10 = .ok (.invokestatic 85, 3) := by decide +kernel
theorem e119_10 {d : Nat} {l0 l1 : Option Value} {s0 : Int64} {s1 : Int64} {s2 : Int64} {σ : ab_St} {Q : Option Value → ab_St → Prop} : Ev (d + 1) 119 10 [l0, l1] [.long s0, .long s1, .long s2] σ Q = Ev d 101 0 [some (.long s2), none, some (.long s1), none, some (.long s0), none] [] σ (fun r σ2 => Ev (d + 1) 119 13 [l0, l1] (r.toList ++ []) σ2 Q) := ev_K0 (y := 101) (ls := [l0, l1]) (st := [.long s0, .long s1, .long s2]) (as := [.long s2, .long s1, .long s0]) (rest := []) d119_10 rfl rfl rfl rfl rfl rfl rfl rfl
theorem d119_13 : decode (ab_C 119) 13 = .ok (.ifCond .ne 7, 3) := by decide +kernel
theorem e119_13 {d : Nat} {l0 l1 : Option Value} {s0 : Int32} {σ : ab_St} {Q : Option Value → ab_St → Prop} : Ev d 119 13 [l0, l1] [.int s0] σ Q = if s0 = 0 then Ev d 119 16 [l0, l1] [] σ Q else Ev d 119 20 [l0, l1] [] σ Q := ev_B (c := s0 = 0) d119_13 rfl rfl rfl rfl rfl
theorem d119_16 : decode (ab_C 119) 16 = .ok (.iconst 1, 1) := by decide +kernel
theorem e119_16 {d : Nat} {l0 l1 : Option Value} {σ : ab_St} {Q : Option Value → ab_St → Prop} : Ev d 119 16 [l0, l1] [] σ Q = Ev d 119 17 [l0, l1] [.int 1] σ Q := ev_A1 d119_16 rfl
theorem d119_17 : decode (ab_C 119) 17 = .ok (.goto 4, 3) := by decide +kernel
theorem e119_17 {d : Nat} {l0 l1 : Option Value} {s0 : Int32} {σ : ab_St} {Q : Option Value → ab_St → Prop} : Ev d 119 17 [l0, l1] [.int s0] σ Q = Ev d 119 21 [l0, l1] [.int s0] σ Q := ev_J d119_17 rfl rfl rfl rfl rfl
theorem d119_20 : decode (ab_C 119) 20 = .ok (.iconst 0, 1) := by decide +kernel
theorem e119_20 {d : Nat} {l0 l1 : Option Value} {σ : ab_St} {Q : Option Value → ab_St → Prop} : Ev d 119 20 [l0, l1] [] σ Q = Ev d 119 21 [l0, l1] [.int 0] σ Q := ev_A1 d119_20 rfl
theorem d119_21 : decode (ab_C 119) 21 = .ok (.ireturn, 1) := by decide +kernel
theorem e119_21 {d : Nat} {l0 l1 : Option Value} {s0 : Int32} {σ : ab_St} {Q : Option Value → ab_St → Prop} : Ev d 119 21 [l0, l1] [.int s0] σ Q = ((s0 = 0 ∨ s0 = 1) ∧ Q (some (.int s0)) σ) := ev_Z d119_21 rfl
/-! SaidLeastModel.law(I)I -/
theorem d120_0 : decode (ab_C 120) 0 = .ok (.aload_n 0, 1) := by decide +kernel
theorem e120_0 {d : Nat} {l1 l2 : Option Value} {x : Nat} {σ : ab_St} {Q : Option Value → ab_St → Prop} : Ev d 120 0 [some (.ref x), l1, l2] [] σ Q = Ev d 120 1 [some (.ref x), l1, l2] [.ref x] σ Q := ev_A1 d120_0 rfl
theorem d120_1 : decode (ab_C 120) 1 = .ok (.iconst 0, 1) := by decide +kernel
theorem e120_1 {d : Nat} {l0 l1 l2 : Option Value} {s0 : Nat} {σ : ab_St} {Q : Option Value → ab_St → Prop} : Ev d 120 1 [l0, l1, l2] [.ref s0] σ Q = Ev d 120 2 [l0, l1, l2] [.int 0, .ref s0] σ Q := ev_A1 d120_1 rfl
theorem d120_2 : decode (ab_C 120) 2 = .ok (.putfield 79, 3) := by decide +kernel
theorem e120_2 {d : Nat} {l0 l1 l2 : Option Value} {s0 : Int32} {s1 : Nat} {σ : ab_St} {Q : Option Value → ab_St → Prop} : Ev d 120 2 [l0, l1, l2] [.int s0, .ref s1] σ Q = (ab_k s1 = 10 ∧ Ev d 120 5 [l0, l1, l2] [] (ab_wI σ s1 (upd (σ.1 s1) 0 s0)) Q) := ev_Hc (c := ab_k s1 = 10) d120_2 rfl rfl rfl rfl rfl rfl rfl rfl
theorem d120_5 : decode (ab_C 120) 5 = .ok (.iload_n 1, 1) := by decide +kernel
theorem e120_5 {d : Nat} {l0 l2 : Option Value} {x : Int32} {σ : ab_St} {Q : Option Value → ab_St → Prop} : Ev d 120 5 [l0, some (.int x), l2] [] σ Q = Ev d 120 6 [l0, some (.int x), l2] [.int x] σ Q := ev_A1 d120_5 rfl
theorem d120_6 : decode (ab_C 120) 6 = .ok (.i2l, 1) := by decide +kernel
theorem e120_6 {d : Nat} {l0 l1 l2 : Option Value} {s0 : Int32} {σ : ab_St} {Q : Option Value → ab_St → Prop} : Ev d 120 6 [l0, l1, l2] [.int s0] σ Q = Ev d 120 7 [l0, l1, l2] [.long s0.toInt64] σ Q := ev_A2 d120_6 rfl rfl
theorem d120_7 : decode (ab_C 120) 7 = .ok (.lconst 0, 1) := by decide +kernel
theorem e120_7 {d : Nat} {l0 l1 l2 : Option Value} {s0 : Int64} {σ : ab_St} {Q : Option Value → ab_St → Prop} : Ev d 120 7 [l0, l1, l2] [.long s0] σ Q = Ev d 120 8 [l0, l1, l2] [.long 0, .long s0] σ Q := ev_A1 d120_7 rfl
theorem d120_8 : decode (ab_C 120) 8 = .ok (.ldc2_w 173, 3) := by decide +kernel
theorem e120_8 {d : Nat} {l0 l1 l2 : Option Value} {s0 : Int64} {s1 : Int64} {σ : ab_St} {Q : Option Value → ab_St → Prop} : Ev d 120 8 [l0, l1, l2] [.long s0, .long s1] σ Q = Ev d 120 11 [l0, l1, l2] [.long 2, .long s0, .long s1] σ Q := ev_A1 d120_8 rfl
theorem d120_11 : decode (ab_C 120) 11 = .ok (.invokestatic 85, 3) := by decide +kernel
theorem e120_11 {d : Nat} {l0 l1 l2 : Option Value} {s0 : Int64} {s1 : Int64} {s2 : Int64} {σ : ab_St} {Q : Option Value → ab_St → Prop} : Ev (d + 1) 120 11 [l0, l1, l2] [.long s0, .long s1, .long s2] σ Q = Ev d 101 0 [some (.long s2), none, some (.long s1), none, some (.long s0), none] [] σ (fun r σ2 => Ev (d + 1) 120 14 [l0, l1, l2] (r.toList ++ []) σ2 Q) := ev_K0 (y := 101) (ls := [l0, l1, l2]) (st := [.long s0, .long s1, .long s2]) (as := [.long s2, .long s1, .long s0]) (rest := []) d120_11 rfl rfl rfl rfl rfl rfl rfl rfl
theorem d120_14 : decode (ab_C 120) 14 = .ok (.ifCond .ne 6, 3) := by decide +kernel
theorem e120_14 {d : Nat} {l0 l1 l2 : Option Value} {s0 : Int32} {σ : ab_St} {Q : Option Value → ab_St → Prop} : Ev d 120 14 [l0, l1, l2] [.int s0] σ Q = if s0 = 0 then Ev d 120 17 [l0, l1, l2] [] σ Q else Ev d 120 20 [l0, l1, l2] [] σ Q := ev_B (c := s0 = 0) d120_14 rfl rfl rfl rfl rfl
theorem d120_17 : decode (ab_C 120) 17 = .ok (.bipush (-2), 2) := by decide +kernel
theorem e120_17 {d : Nat} {l0 l1 l2 : Option Value} {σ : ab_St} {Q : Option Value → ab_St → Prop} : Ev d 120 17 [l0, l1, l2] [] σ Q = Ev d 120 19 [l0, l1, l2] [.int (-2)] σ Q := ev_A1 d120_17 rfl
theorem d120_19 : decode (ab_C 120) 19 = .ok (.ireturn, 1) := by decide +kernel
theorem e120_19 {d : Nat} {l0 l1 l2 : Option Value} {s0 : Int32} {σ : ab_St} {Q : Option Value → ab_St → Prop} : Ev d 120 19 [l0, l1, l2] [.int s0] σ Q = Q (some (.int s0)) σ := ev_E d120_19 rfl rfl rfl rfl rfl rfl rfl
theorem d120_20 : decode (ab_C 120) 20 = .ok (.aload_n 0, 1) := by decide +kernel
theorem e120_20 {d : Nat} {l1 l2 : Option Value} {x : Nat} {σ : ab_St} {Q : Option Value → ab_St → Prop} : Ev d 120 20 [some (.ref x), l1, l2] [] σ Q = Ev d 120 21 [some (.ref x), l1, l2] [.ref x] σ Q := ev_A1 d120_20 rfl
theorem d120_21 : decode (ab_C 120) 21 = .ok (.getfield 135, 3) := by decide +kernel
theorem e120_21 {d : Nat} {l0 l1 l2 : Option Value} {s0 : Nat} {σ : ab_St} {Q : Option Value → ab_St → Prop} : Ev d 120 21 [l0, l1, l2] [.ref s0] σ Q = (ab_k s0 = 10 ∧ Ev d 120 24 [l0, l1, l2] [.int (σ.1 s0 4)] σ Q) := ev_Hc (c := ab_k s0 = 10) d120_21 rfl rfl rfl rfl rfl rfl rfl rfl
theorem d120_24 : decode (ab_C 120) 24 = .ok (.istore_n 2, 1) := by decide +kernel
theorem e120_24 {d : Nat} {l0 l1 l2 : Option Value} {s0 : Int32} {σ : ab_St} {Q : Option Value → ab_St → Prop} : Ev d 120 24 [l0, l1, l2] [.int s0] σ Q = Ev d 120 25 [l0, l1, some (.int s0)] [] σ Q := ev_S d120_24 rfl rfl rfl rfl
theorem d120_25 : decode (ab_C 120) 25 = .ok (.aload_n 0, 1) := by decide +kernel
theorem e120_25 {d : Nat} {l1 l2 : Option Value} {x : Nat} {σ : ab_St} {Q : Option Value → ab_St → Prop} : Ev d 120 25 [some (.ref x), l1, l2] [] σ Q = Ev d 120 26 [some (.ref x), l1, l2] [.ref x] σ Q := ev_A1 d120_25 rfl
theorem d120_26 : decode (ab_C 120) 26 = .ok (.iload_n 1, 1) := by decide +kernel
theorem e120_26 {d : Nat} {l0 l2 : Option Value} {x : Int32} {s0 : Nat} {σ : ab_St} {Q : Option Value → ab_St → Prop} : Ev d 120 26 [l0, some (.int x), l2] [.ref s0] σ Q = Ev d 120 27 [l0, some (.int x), l2] [.int x, .ref s0] σ Q := ev_A1 d120_26 rfl
theorem d120_27 : decode (ab_C 120) 27 = .ok (.putfield 135, 3) := by decide +kernel
theorem e120_27 {d : Nat} {l0 l1 l2 : Option Value} {s0 : Int32} {s1 : Nat} {σ : ab_St} {Q : Option Value → ab_St → Prop} : Ev d 120 27 [l0, l1, l2] [.int s0, .ref s1] σ Q = (ab_k s1 = 10 ∧ Ev d 120 30 [l0, l1, l2] [] (ab_wI σ s1 (upd (σ.1 s1) 4 s0)) Q) := ev_Hc (c := ab_k s1 = 10) d120_27 rfl rfl rfl rfl rfl rfl rfl rfl
theorem d120_30 : decode (ab_C 120) 30 = .ok (.iload_n 2, 1) := by decide +kernel
theorem e120_30 {d : Nat} {l0 l1 : Option Value} {x : Int32} {σ : ab_St} {Q : Option Value → ab_St → Prop} : Ev d 120 30 [l0, l1, some (.int x)] [] σ Q = Ev d 120 31 [l0, l1, some (.int x)] [.int x] σ Q := ev_A1 d120_30 rfl
theorem d120_31 : decode (ab_C 120) 31 = .ok (.ireturn, 1) := by decide +kernel
theorem e120_31 {d : Nat} {l0 l1 l2 : Option Value} {s0 : Int32} {σ : ab_St} {Q : Option Value → ab_St → Prop} : Ev d 120 31 [l0, l1, l2] [.int s0] σ Q = Q (some (.int s0)) σ := ev_E d120_31 rfl rfl rfl rfl rfl rfl rfl
/-! SaidLeastModel.may(I)I -/
theorem d121_0 : decode (ab_C 121) 0 = .ok (.aload_n 0, 1) := by decide +kernel
theorem e121_0 {d : Nat} {l1 : Option Value} {x : Nat} {σ : ab_St} {Q : Option Value → ab_St → Prop} : Ev d 121 0 [some (.ref x), l1] [] σ Q = Ev d 121 1 [some (.ref x), l1] [.ref x] σ Q := ev_A1 d121_0 rfl
theorem d121_1 : decode (ab_C 121) 1 = .ok (.iconst 0, 1) := by decide +kernel
theorem e121_1 {d : Nat} {l0 l1 : Option Value} {s0 : Nat} {σ : ab_St} {Q : Option Value → ab_St → Prop} : Ev d 121 1 [l0, l1] [.ref s0] σ Q = Ev d 121 2 [l0, l1] [.int 0, .ref s0] σ Q := ev_A1 d121_1 rfl
theorem d121_2 : decode (ab_C 121) 2 = .ok (.putfield 79, 3) := by decide +kernel
theorem e121_2 {d : Nat} {l0 l1 : Option Value} {s0 : Int32} {s1 : Nat} {σ : ab_St} {Q : Option Value → ab_St → Prop} : Ev d 121 2 [l0, l1] [.int s0, .ref s1] σ Q = (ab_k s1 = 10 ∧ Ev d 121 5 [l0, l1] [] (ab_wI σ s1 (upd (σ.1 s1) 0 s0)) Q) := ev_Hc (c := ab_k s1 = 10) d121_2 rfl rfl rfl rfl rfl rfl rfl rfl
theorem d121_5 : decode (ab_C 121) 5 = .ok (.aload_n 0, 1) := by decide +kernel
theorem e121_5 {d : Nat} {l1 : Option Value} {x : Nat} {σ : ab_St} {Q : Option Value → ab_St → Prop} : Ev d 121 5 [some (.ref x), l1] [] σ Q = Ev d 121 6 [some (.ref x), l1] [.ref x] σ Q := ev_A1 d121_5 rfl
theorem d121_6 : decode (ab_C 121) 6 = .ok (.iload_n 1, 1) := by decide +kernel
theorem e121_6 {d : Nat} {l0 : Option Value} {x : Int32} {s0 : Nat} {σ : ab_St} {Q : Option Value → ab_St → Prop} : Ev d 121 6 [l0, some (.int x)] [.ref s0] σ Q = Ev d 121 7 [l0, some (.int x)] [.int x, .ref s0] σ Q := ev_A1 d121_6 rfl
theorem d121_7 : decode (ab_C 121) 7 = .ok (.invokevirtual 170, 3) := by decide +kernel
theorem e121_7 {d : Nat} {l0 l1 : Option Value} {s0 : Int32} {s1 : Nat} {σ : ab_St} {Q : Option Value → ab_St → Prop} : Ev (d + 1) 121 7 [l0, l1] [.int s0, .ref s1] σ Q = (ab_k s1 = 10 ∧ Ev d 119 0 [some (.ref s1), some (.int s0)] [] σ (fun r σ2 => Ev (d + 1) 121 10 [l0, l1] (r.toList ++ []) σ2 Q)) := ev_KV (b := s1) (ls := [l0, l1]) (st := [.int s0, .ref s1]) (as := [.int s0]) (rest := []) d121_7 rfl rfl rfl (Nat.le_of_ble_eq_true rfl) (Nat.le_of_ble_eq_true rfl) (Nat.le_of_ble_eq_true rfl) rfl rfl rfl rfl rfl rfl rfl
theorem d121_10 : decode (ab_C 121) 10 = .ok (.ifCond .eq 5, 3) := by decide +kernel
theorem e121_10 {d : Nat} {l0 l1 : Option Value} {s0 : Int32} {σ : ab_St} {Q : Option Value → ab_St → Prop} : Ev d 121 10 [l0, l1] [.int s0] σ Q = if s0 = 0 then Ev d 121 15 [l0, l1] [] σ Q else Ev d 121 13 [l0, l1] [] σ Q := ev_B (c := s0 = 0) d121_10 rfl rfl rfl rfl rfl
theorem d121_13 : decode (ab_C 121) 13 = .ok (.iconst (-1), 1) := by decide +kernel
theorem e121_13 {d : Nat} {l0 l1 : Option Value} {σ : ab_St} {Q : Option Value → ab_St → Prop} : Ev d 121 13 [l0, l1] [] σ Q = Ev d 121 14 [l0, l1] [.int (-1)] σ Q := ev_A1 d121_13 rfl
theorem d121_14 : decode (ab_C 121) 14 = .ok (.ireturn, 1) := by decide +kernel
theorem e121_14 {d : Nat} {l0 l1 : Option Value} {s0 : Int32} {σ : ab_St} {Q : Option Value → ab_St → Prop} : Ev d 121 14 [l0, l1] [.int s0] σ Q = Q (some (.int s0)) σ := ev_E d121_14 rfl rfl rfl rfl rfl rfl rfl
theorem d121_15 : decode (ab_C 121) 15 = .ok (.aload_n 0, 1) := by decide +kernel
theorem e121_15 {d : Nat} {l1 : Option Value} {x : Nat} {σ : ab_St} {Q : Option Value → ab_St → Prop} : Ev d 121 15 [some (.ref x), l1] [] σ Q = Ev d 121 16 [some (.ref x), l1] [.ref x] σ Q := ev_A1 d121_15 rfl
theorem d121_16 : decode (ab_C 121) 16 = .ok (.invokevirtual 158, 3) := by decide +kernel
theorem e121_16 {d : Nat} {l0 l1 : Option Value} {s0 : Nat} {σ : ab_St} {Q : Option Value → ab_St → Prop} : Ev (d + 1) 121 16 [l0, l1] [.ref s0] σ Q = (ab_k s0 = 10 ∧ Ev d 112 0 [some (.ref s0), none] [] σ (fun r σ2 => Ev (d + 1) 121 19 [l0, l1] (r.toList ++ []) σ2 Q)) := ev_KV (b := s0) (ls := [l0, l1]) (st := [.ref s0]) (as := []) (rest := []) d121_16 rfl rfl rfl (Nat.le_of_ble_eq_true rfl) (Nat.le_of_ble_eq_true rfl) (Nat.le_of_ble_eq_true rfl) rfl rfl rfl rfl rfl rfl rfl
theorem d121_19 : decode (ab_C 121) 19 = .ok (.aload_n 0, 1) := by decide +kernel
theorem e121_19 {d : Nat} {l1 : Option Value} {x : Nat} {σ : ab_St} {Q : Option Value → ab_St → Prop} : Ev d 121 19 [some (.ref x), l1] [] σ Q = Ev d 121 20 [some (.ref x), l1] [.ref x] σ Q := ev_A1 d121_19 rfl
theorem d121_20 : decode (ab_C 121) 20 = .ok (.iload_n 1, 1) := by decide +kernel
theorem e121_20 {d : Nat} {l0 : Option Value} {x : Int32} {s0 : Nat} {σ : ab_St} {Q : Option Value → ab_St → Prop} : Ev d 121 20 [l0, some (.int x)] [.ref s0] σ Q = Ev d 121 21 [l0, some (.int x)] [.int x, .ref s0] σ Q := ev_A1 d121_20 rfl
theorem d121_21 : decode (ab_C 121) 21 = .ok (.invokevirtual 175, 3) := by decide +kernel
theorem e121_21 {d : Nat} {l0 l1 : Option Value} {s0 : Int32} {s1 : Nat} {σ : ab_St} {Q : Option Value → ab_St → Prop} : Ev (d + 1) 121 21 [l0, l1] [.int s0, .ref s1] σ Q = (ab_k s1 = 10 ∧ Ev d 122 0 [some (.ref s1), some (.int s0)] [] σ (fun r σ2 => Ev (d + 1) 121 24 [l0, l1] (r.toList ++ []) σ2 Q)) := ev_KV (b := s1) (ls := [l0, l1]) (st := [.int s0, .ref s1]) (as := [.int s0]) (rest := []) d121_21 rfl rfl rfl (Nat.le_of_ble_eq_true rfl) (Nat.le_of_ble_eq_true rfl) (Nat.le_of_ble_eq_true rfl) rfl rfl rfl rfl rfl rfl rfl
theorem d121_24 : decode (ab_C 121) 24 = .ok (.ifCond .eq 7, 3) := by decide +kernel
theorem e121_24 {d : Nat} {l0 l1 : Option Value} {s0 : Int32} {σ : ab_St} {Q : Option Value → ab_St → Prop} : Ev d 121 24 [l0, l1] [.int s0] σ Q = if s0 = 0 then Ev d 121 31 [l0, l1] [] σ Q else Ev d 121 27 [l0, l1] [] σ Q := ev_B (c := s0 = 0) d121_24 rfl rfl rfl rfl rfl
theorem d121_27 : decode (ab_C 121) 27 = .ok (.iconst 1, 1) := by decide +kernel
theorem e121_27 {d : Nat} {l0 l1 : Option Value} {σ : ab_St} {Q : Option Value → ab_St → Prop} : Ev d 121 27 [l0, l1] [] σ Q = Ev d 121 28 [l0, l1] [.int 1] σ Q := ev_A1 d121_27 rfl
theorem d121_28 : decode (ab_C 121) 28 = .ok (.goto 4, 3) := by decide +kernel
theorem e121_28 {d : Nat} {l0 l1 : Option Value} {s0 : Int32} {σ : ab_St} {Q : Option Value → ab_St → Prop} : Ev d 121 28 [l0, l1] [.int s0] σ Q = Ev d 121 32 [l0, l1] [.int s0] σ Q := ev_J d121_28 rfl rfl rfl rfl rfl
theorem d121_31 : decode (ab_C 121) 31 = .ok (.iconst 0, 1) := by decide +kernel
theorem e121_31 {d : Nat} {l0 l1 : Option Value} {σ : ab_St} {Q : Option Value → ab_St → Prop} : Ev d 121 31 [l0, l1] [] σ Q = Ev d 121 32 [l0, l1] [.int 0] σ Q := ev_A1 d121_31 rfl
theorem d121_32 : decode (ab_C 121) 32 = .ok (.ireturn, 1) := by decide +kernel
theorem e121_32 {d : Nat} {l0 l1 : Option Value} {s0 : Int32} {σ : ab_St} {Q : Option Value → ab_St → Prop} : Ev d 121 32 [l0, l1] [.int s0] σ Q = Q (some (.int s0)) σ := ev_E d121_32 rfl rfl rfl rfl rfl rfl rfl
/-! SaidLeastModel.canSay(I)Z -/
theorem d122_0 : decode (ab_C 122) 0 = .ok (.aload_n 0, 1) := by decide +kernel
theorem e122_0 {d : Nat} {l1 : Option Value} {x : Nat} {σ : ab_St} {Q : Option Value → ab_St → Prop} : Ev d 122 0 [some (.ref x), l1] [] σ Q = Ev d 122 1 [some (.ref x), l1] [.ref x] σ Q := ev_A1 d122_0 rfl
theorem d122_1 : decode (ab_C 122) 1 = .ok (.getfield 147, 3) := by decide +kernel
theorem e122_1 {d : Nat} {l0 l1 : Option Value} {s0 : Nat} {σ : ab_St} {Q : Option Value → ab_St → Prop} : Ev d 122 1 [l0, l1] [.ref s0] σ Q = (ab_k s0 = 10 ∧ Ev d 122 4 [l0, l1] [.int (σ.1 s0 29)] σ Q) := ev_Hc (c := ab_k s0 = 10) d122_1 rfl rfl rfl rfl rfl rfl rfl rfl
theorem d122_4 : decode (ab_C 122) 4 = .ok (.iload_n 1, 1) := by decide +kernel
theorem e122_4 {d : Nat} {l0 : Option Value} {x : Int32} {s0 : Int32} {σ : ab_St} {Q : Option Value → ab_St → Prop} : Ev d 122 4 [l0, some (.int x)] [.int s0] σ Q = Ev d 122 5 [l0, some (.int x)] [.int x, .int s0] σ Q := ev_A1 d122_4 rfl
theorem d122_5 : decode (ab_C 122) 5 = .ok (.invokestatic 154, 3) := by decide +kernel
theorem e122_5 {d : Nat} {l0 l1 : Option Value} {s0 : Int32} {s1 : Int32} {σ : ab_St} {Q : Option Value → ab_St → Prop} : Ev (d + 1) 122 5 [l0, l1] [.int s0, .int s1] σ Q = Ev d 113 0 [some (.int s1), some (.int s0)] [] σ (fun r σ2 => Ev (d + 1) 122 8 [l0, l1] (r.toList ++ []) σ2 Q) := ev_K0 (y := 113) (ls := [l0, l1]) (st := [.int s0, .int s1]) (as := [.int s1, .int s0]) (rest := []) d122_5 rfl rfl rfl rfl rfl rfl rfl rfl
theorem d122_8 : decode (ab_C 122) 8 = .ok (.ifCond .ne 19, 3) := by decide +kernel
theorem e122_8 {d : Nat} {l0 l1 : Option Value} {s0 : Int32} {σ : ab_St} {Q : Option Value → ab_St → Prop} : Ev d 122 8 [l0, l1] [.int s0] σ Q = if s0 = 0 then Ev d 122 11 [l0, l1] [] σ Q else Ev d 122 27 [l0, l1] [] σ Q := ev_B (c := s0 = 0) d122_8 rfl rfl rfl rfl rfl
theorem d122_11 : decode (ab_C 122) 11 = .ok (.aload_n 0, 1) := by decide +kernel
theorem e122_11 {d : Nat} {l1 : Option Value} {x : Nat} {σ : ab_St} {Q : Option Value → ab_St → Prop} : Ev d 122 11 [some (.ref x), l1] [] σ Q = Ev d 122 12 [some (.ref x), l1] [.ref x] σ Q := ev_A1 d122_11 rfl
theorem d122_12 : decode (ab_C 122) 12 = .ok (.getfield 138, 3) := by decide +kernel
theorem e122_12 {d : Nat} {l0 l1 : Option Value} {s0 : Nat} {σ : ab_St} {Q : Option Value → ab_St → Prop} : Ev d 122 12 [l0, l1] [.ref s0] σ Q = (ab_k s0 = 10 ∧ Ev d 122 15 [l0, l1] [.int (σ.1 s0 7)] σ Q) := ev_Hc (c := ab_k s0 = 10) d122_12 rfl rfl rfl rfl rfl rfl rfl rfl
theorem d122_15 : decode (ab_C 122) 15 = .ok (.aload_n 0, 1) := by decide +kernel
theorem e122_15 {d : Nat} {l1 : Option Value} {x : Nat} {s0 : Int32} {σ : ab_St} {Q : Option Value → ab_St → Prop} : Ev d 122 15 [some (.ref x), l1] [.int s0] σ Q = Ev d 122 16 [some (.ref x), l1] [.ref x, .int s0] σ Q := ev_A1 d122_15 rfl
theorem d122_16 : decode (ab_C 122) 16 = .ok (.getfield 16, 3) := by decide +kernel
theorem e122_16 {d : Nat} {l0 l1 : Option Value} {s0 : Nat} {s1 : Int32} {σ : ab_St} {Q : Option Value → ab_St → Prop} : Ev d 122 16 [l0, l1] [.ref s0, .int s1] σ Q = (ab_k s0 = 10 ∧ Ev d 122 19 [l0, l1] [.ref (ab_r s0 9), .int s1] σ Q) := ev_Hc (c := ab_k s0 = 10) d122_16 rfl rfl rfl rfl rfl rfl rfl rfl
theorem d122_19 : decode (ab_C 122) 19 = .ok (.iload_n 1, 1) := by decide +kernel
theorem e122_19 {d : Nat} {l0 : Option Value} {x : Int32} {s0 : Nat} {s1 : Int32} {σ : ab_St} {Q : Option Value → ab_St → Prop} : Ev d 122 19 [l0, some (.int x)] [.ref s0, .int s1] σ Q = Ev d 122 20 [l0, some (.int x)] [.int x, .ref s0, .int s1] σ Q := ev_A1 d122_19 rfl
theorem d122_20 : decode (ab_C 122) 20 = .ok (.iaload, 1) := by decide +kernel
theorem e122_20 {d : Nat} {l0 l1 : Option Value} {s0 : Int32} {s1 : Nat} {s2 : Int32} {σ : ab_St} {Q : Option Value → ab_St → Prop} : Ev d 122 20 [l0, l1] [.int s0, .ref s1, .int s2] σ Q = ((ab_k s1 = 100 ∧ ab_in s0 (ab_n s1)) ∧ Ev d 122 21 [l0, l1] [.int (σ.1 s1 s0.toNatClampNeg), .int s2] σ Q) := ev_Hc (c := ab_k s1 = 100 ∧ ab_in s0 (ab_n s1)) d122_20 rfl rfl rfl rfl rfl rfl rfl rfl
theorem d122_21 : decode (ab_C 122) 21 = .ok (.invokestatic 154, 3) := by decide +kernel
theorem e122_21 {d : Nat} {l0 l1 : Option Value} {s0 : Int32} {s1 : Int32} {σ : ab_St} {Q : Option Value → ab_St → Prop} : Ev (d + 1) 122 21 [l0, l1] [.int s0, .int s1] σ Q = Ev d 113 0 [some (.int s1), some (.int s0)] [] σ (fun r σ2 => Ev (d + 1) 122 24 [l0, l1] (r.toList ++ []) σ2 Q) := ev_K0 (y := 113) (ls := [l0, l1]) (st := [.int s0, .int s1]) (as := [.int s1, .int s0]) (rest := []) d122_21 rfl rfl rfl rfl rfl rfl rfl rfl
theorem d122_24 : decode (ab_C 122) 24 = .ok (.ifCond .ne 5, 3) := by decide +kernel
theorem e122_24 {d : Nat} {l0 l1 : Option Value} {s0 : Int32} {σ : ab_St} {Q : Option Value → ab_St → Prop} : Ev d 122 24 [l0, l1] [.int s0] σ Q = if s0 = 0 then Ev d 122 27 [l0, l1] [] σ Q else Ev d 122 29 [l0, l1] [] σ Q := ev_B (c := s0 = 0) d122_24 rfl rfl rfl rfl rfl
theorem d122_27 : decode (ab_C 122) 27 = .ok (.iconst 0, 1) := by decide +kernel
theorem e122_27 {d : Nat} {l0 l1 : Option Value} {σ : ab_St} {Q : Option Value → ab_St → Prop} : Ev d 122 27 [l0, l1] [] σ Q = Ev d 122 28 [l0, l1] [.int 0] σ Q := ev_A1 d122_27 rfl
theorem d122_28 : decode (ab_C 122) 28 = .ok (.ireturn, 1) := by decide +kernel
theorem e122_28 {d : Nat} {l0 l1 : Option Value} {s0 : Int32} {σ : ab_St} {Q : Option Value → ab_St → Prop} : Ev d 122 28 [l0, l1] [.int s0] σ Q = ((s0 = 0 ∨ s0 = 1) ∧ Q (some (.int s0)) σ) := ev_Z d122_28 rfl
theorem d122_29 : decode (ab_C 122) 29 = .ok (.aload_n 0, 1) := by decide +kernel
theorem e122_29 {d : Nat} {l1 : Option Value} {x : Nat} {σ : ab_St} {Q : Option Value → ab_St → Prop} : Ev d 122 29 [some (.ref x), l1] [] σ Q = Ev d 122 30 [some (.ref x), l1] [.ref x] σ Q := ev_A1 d122_29 rfl
theorem d122_30 : decode (ab_C 122) 30 = .ok (.getfield 25, 3) := by decide +kernel
theorem e122_30 {d : Nat} {l0 l1 : Option Value} {s0 : Nat} {σ : ab_St} {Q : Option Value → ab_St → Prop} : Ev d 122 30 [l0, l1] [.ref s0] σ Q = (ab_k s0 = 10 ∧ Ev d 122 33 [l0, l1] [.ref (ab_r s0 12)] σ Q) := ev_Hc (c := ab_k s0 = 10) d122_30 rfl rfl rfl rfl rfl rfl rfl rfl
theorem d122_33 : decode (ab_C 122) 33 = .ok (.iload_n 1, 1) := by decide +kernel
theorem e122_33 {d : Nat} {l0 : Option Value} {x : Int32} {s0 : Nat} {σ : ab_St} {Q : Option Value → ab_St → Prop} : Ev d 122 33 [l0, some (.int x)] [.ref s0] σ Q = Ev d 122 34 [l0, some (.int x)] [.int x, .ref s0] σ Q := ev_A1 d122_33 rfl
theorem d122_34 : decode (ab_C 122) 34 = .ok (.iaload, 1) := by decide +kernel
theorem e122_34 {d : Nat} {l0 l1 : Option Value} {s0 : Int32} {s1 : Nat} {σ : ab_St} {Q : Option Value → ab_St → Prop} : Ev d 122 34 [l0, l1] [.int s0, .ref s1] σ Q = ((ab_k s1 = 100 ∧ ab_in s0 (ab_n s1)) ∧ Ev d 122 35 [l0, l1] [.int (σ.1 s1 s0.toNatClampNeg)] σ Q) := ev_Hc (c := ab_k s1 = 100 ∧ ab_in s0 (ab_n s1)) d122_34 rfl rfl rfl rfl rfl rfl rfl rfl
theorem d122_35 : decode (ab_C 122) 35 = .ok (.bipush (-9), 2) := by decide +kernel
theorem e122_35 {d : Nat} {l0 l1 : Option Value} {s0 : Int32} {σ : ab_St} {Q : Option Value → ab_St → Prop} : Ev d 122 35 [l0, l1] [.int s0] σ Q = Ev d 122 37 [l0, l1] [.int (-9), .int s0] σ Q := ev_A1 d122_35 rfl
theorem d122_37 : decode (ab_C 122) 37 = .ok (.if_icmp .ne 19, 3) := by decide +kernel
theorem e122_37 {d : Nat} {l0 l1 : Option Value} {s0 : Int32} {s1 : Int32} {σ : ab_St} {Q : Option Value → ab_St → Prop} : Ev d 122 37 [l0, l1] [.int s0, .int s1] σ Q = if s1 = s0 then Ev d 122 40 [l0, l1] [] σ Q else Ev d 122 56 [l0, l1] [] σ Q := ev_B (c := s1 = s0) d122_37 rfl rfl rfl rfl rfl
theorem d122_40 : decode (ab_C 122) 40 = .ok (.aload_n 0, 1) := by decide +kernel
theorem e122_40 {d : Nat} {l1 : Option Value} {x : Nat} {σ : ab_St} {Q : Option Value → ab_St → Prop} : Ev d 122 40 [some (.ref x), l1] [] σ Q = Ev d 122 41 [some (.ref x), l1] [.ref x] σ Q := ev_A1 d122_40 rfl
theorem d122_41 : decode (ab_C 122) 41 = .ok (.invokevirtual 161, 3) := by decide +kernel
theorem e122_41 {d : Nat} {l0 l1 : Option Value} {s0 : Nat} {σ : ab_St} {Q : Option Value → ab_St → Prop} : Ev (d + 1) 122 41 [l0, l1] [.ref s0] σ Q = (ab_k s0 = 10 ∧ Ev d 114 0 [some (.ref s0), none, none, none] [] σ (fun r σ2 => Ev (d + 1) 122 44 [l0, l1] (r.toList ++ []) σ2 Q)) := ev_KV (b := s0) (ls := [l0, l1]) (st := [.ref s0]) (as := []) (rest := []) d122_41 rfl rfl rfl (Nat.le_of_ble_eq_true rfl) (Nat.le_of_ble_eq_true rfl) (Nat.le_of_ble_eq_true rfl) rfl rfl rfl rfl rfl rfl rfl
theorem d122_44 : decode (ab_C 122) 44 = .ok (.aload_n 0, 1) := by decide +kernel
theorem e122_44 {d : Nat} {l1 : Option Value} {x : Nat} {s0 : Int32} {σ : ab_St} {Q : Option Value → ab_St → Prop} : Ev d 122 44 [some (.ref x), l1] [.int s0] σ Q = Ev d 122 45 [some (.ref x), l1] [.ref x, .int s0] σ Q := ev_A1 d122_44 rfl
theorem d122_45 : decode (ab_C 122) 45 = .ok (.getfield 16, 3) := by decide +kernel
theorem e122_45 {d : Nat} {l0 l1 : Option Value} {s0 : Nat} {s1 : Int32} {σ : ab_St} {Q : Option Value → ab_St → Prop} : Ev d 122 45 [l0, l1] [.ref s0, .int s1] σ Q = (ab_k s0 = 10 ∧ Ev d 122 48 [l0, l1] [.ref (ab_r s0 9), .int s1] σ Q) := ev_Hc (c := ab_k s0 = 10) d122_45 rfl rfl rfl rfl rfl rfl rfl rfl
theorem d122_48 : decode (ab_C 122) 48 = .ok (.iload_n 1, 1) := by decide +kernel
theorem e122_48 {d : Nat} {l0 : Option Value} {x : Int32} {s0 : Nat} {s1 : Int32} {σ : ab_St} {Q : Option Value → ab_St → Prop} : Ev d 122 48 [l0, some (.int x)] [.ref s0, .int s1] σ Q = Ev d 122 49 [l0, some (.int x)] [.int x, .ref s0, .int s1] σ Q := ev_A1 d122_48 rfl
theorem d122_49 : decode (ab_C 122) 49 = .ok (.iaload, 1) := by decide +kernel
theorem e122_49 {d : Nat} {l0 l1 : Option Value} {s0 : Int32} {s1 : Nat} {s2 : Int32} {σ : ab_St} {Q : Option Value → ab_St → Prop} : Ev d 122 49 [l0, l1] [.int s0, .ref s1, .int s2] σ Q = ((ab_k s1 = 100 ∧ ab_in s0 (ab_n s1)) ∧ Ev d 122 50 [l0, l1] [.int (σ.1 s1 s0.toNatClampNeg), .int s2] σ Q) := ev_Hc (c := ab_k s1 = 100 ∧ ab_in s0 (ab_n s1)) d122_49 rfl rfl rfl rfl rfl rfl rfl rfl
theorem d122_50 : decode (ab_C 122) 50 = .ok (.invokestatic 154, 3) := by decide +kernel
theorem e122_50 {d : Nat} {l0 l1 : Option Value} {s0 : Int32} {s1 : Int32} {σ : ab_St} {Q : Option Value → ab_St → Prop} : Ev (d + 1) 122 50 [l0, l1] [.int s0, .int s1] σ Q = Ev d 113 0 [some (.int s1), some (.int s0)] [] σ (fun r σ2 => Ev (d + 1) 122 53 [l0, l1] (r.toList ++ []) σ2 Q) := ev_K0 (y := 113) (ls := [l0, l1]) (st := [.int s0, .int s1]) (as := [.int s1, .int s0]) (rest := []) d122_50 rfl rfl rfl rfl rfl rfl rfl rfl
theorem d122_53 : decode (ab_C 122) 53 = .ok (.goto 21, 3) := by decide +kernel
theorem e122_53 {d : Nat} {l0 l1 : Option Value} {s0 : Int32} {σ : ab_St} {Q : Option Value → ab_St → Prop} : Ev d 122 53 [l0, l1] [.int s0] σ Q = Ev d 122 74 [l0, l1] [.int s0] σ Q := ev_J d122_53 rfl rfl rfl rfl rfl
theorem d122_56 : decode (ab_C 122) 56 = .ok (.aload_n 0, 1) := by decide +kernel
theorem e122_56 {d : Nat} {l1 : Option Value} {x : Nat} {σ : ab_St} {Q : Option Value → ab_St → Prop} : Ev d 122 56 [some (.ref x), l1] [] σ Q = Ev d 122 57 [some (.ref x), l1] [.ref x] σ Q := ev_A1 d122_56 rfl
theorem d122_57 : decode (ab_C 122) 57 = .ok (.getfield 150, 3) := by decide +kernel
theorem e122_57 {d : Nat} {l0 l1 : Option Value} {s0 : Nat} {σ : ab_St} {Q : Option Value → ab_St → Prop} : Ev d 122 57 [l0, l1] [.ref s0] σ Q = (ab_k s0 = 10 ∧ Ev d 122 60 [l0, l1] [.int (σ.1 s0 30)] σ Q) := ev_Hc (c := ab_k s0 = 10) d122_57 rfl rfl rfl rfl rfl rfl rfl rfl
theorem d122_60 : decode (ab_C 122) 60 = .ok (.aload_n 0, 1) := by decide +kernel
theorem e122_60 {d : Nat} {l1 : Option Value} {x : Nat} {s0 : Int32} {σ : ab_St} {Q : Option Value → ab_St → Prop} : Ev d 122 60 [some (.ref x), l1] [.int s0] σ Q = Ev d 122 61 [some (.ref x), l1] [.ref x, .int s0] σ Q := ev_A1 d122_60 rfl
theorem d122_61 : decode (ab_C 122) 61 = .ok (.getfield 25, 3) := by decide +kernel
theorem e122_61 {d : Nat} {l0 l1 : Option Value} {s0 : Nat} {s1 : Int32} {σ : ab_St} {Q : Option Value → ab_St → Prop} : Ev d 122 61 [l0, l1] [.ref s0, .int s1] σ Q = (ab_k s0 = 10 ∧ Ev d 122 64 [l0, l1] [.ref (ab_r s0 12), .int s1] σ Q) := ev_Hc (c := ab_k s0 = 10) d122_61 rfl rfl rfl rfl rfl rfl rfl rfl
theorem d122_64 : decode (ab_C 122) 64 = .ok (.iload_n 1, 1) := by decide +kernel
theorem e122_64 {d : Nat} {l0 : Option Value} {x : Int32} {s0 : Nat} {s1 : Int32} {σ : ab_St} {Q : Option Value → ab_St → Prop} : Ev d 122 64 [l0, some (.int x)] [.ref s0, .int s1] σ Q = Ev d 122 65 [l0, some (.int x)] [.int x, .ref s0, .int s1] σ Q := ev_A1 d122_64 rfl
theorem d122_65 : decode (ab_C 122) 65 = .ok (.iaload, 1) := by decide +kernel
theorem e122_65 {d : Nat} {l0 l1 : Option Value} {s0 : Int32} {s1 : Nat} {s2 : Int32} {σ : ab_St} {Q : Option Value → ab_St → Prop} : Ev d 122 65 [l0, l1] [.int s0, .ref s1, .int s2] σ Q = ((ab_k s1 = 100 ∧ ab_in s0 (ab_n s1)) ∧ Ev d 122 66 [l0, l1] [.int (σ.1 s1 s0.toNatClampNeg), .int s2] σ Q) := ev_Hc (c := ab_k s1 = 100 ∧ ab_in s0 (ab_n s1)) d122_65 rfl rfl rfl rfl rfl rfl rfl rfl
theorem d122_66 : decode (ab_C 122) 66 = .ok (.if_icmp .ne 7, 3) := by decide +kernel
theorem e122_66 {d : Nat} {l0 l1 : Option Value} {s0 : Int32} {s1 : Int32} {σ : ab_St} {Q : Option Value → ab_St → Prop} : Ev d 122 66 [l0, l1] [.int s0, .int s1] σ Q = if s1 = s0 then Ev d 122 69 [l0, l1] [] σ Q else Ev d 122 73 [l0, l1] [] σ Q := ev_B (c := s1 = s0) d122_66 rfl rfl rfl rfl rfl
theorem d122_69 : decode (ab_C 122) 69 = .ok (.iconst 1, 1) := by decide +kernel
theorem e122_69 {d : Nat} {l0 l1 : Option Value} {σ : ab_St} {Q : Option Value → ab_St → Prop} : Ev d 122 69 [l0, l1] [] σ Q = Ev d 122 70 [l0, l1] [.int 1] σ Q := ev_A1 d122_69 rfl
theorem d122_70 : decode (ab_C 122) 70 = .ok (.goto 4, 3) := by decide +kernel
theorem e122_70 {d : Nat} {l0 l1 : Option Value} {s0 : Int32} {σ : ab_St} {Q : Option Value → ab_St → Prop} : Ev d 122 70 [l0, l1] [.int s0] σ Q = Ev d 122 74 [l0, l1] [.int s0] σ Q := ev_J d122_70 rfl rfl rfl rfl rfl
theorem d122_73 : decode (ab_C 122) 73 = .ok (.iconst 0, 1) := by decide +kernel
theorem e122_73 {d : Nat} {l0 l1 : Option Value} {σ : ab_St} {Q : Option Value → ab_St → Prop} : Ev d 122 73 [l0, l1] [] σ Q = Ev d 122 74 [l0, l1] [.int 0] σ Q := ev_A1 d122_73 rfl
theorem d122_74 : decode (ab_C 122) 74 = .ok (.ireturn, 1) := by decide +kernel
theorem e122_74 {d : Nat} {l0 l1 : Option Value} {s0 : Int32} {σ : ab_St} {Q : Option Value → ab_St → Prop} : Ev d 122 74 [l0, l1] [.int s0] σ Q = ((s0 = 0 ∨ s0 = 1) ∧ Q (some (.int s0)) σ) := ev_Z d122_74 rfl
/-! SaidLeastModel.say(I)I -/
theorem d123_0 : decode (ab_C 123) 0 = .ok (.aload_n 0, 1) := by decide +kernel
theorem e123_0 {d : Nat} {l1 : Option Value} {x : Nat} {σ : ab_St} {Q : Option Value → ab_St → Prop} : Ev d 123 0 [some (.ref x), l1] [] σ Q = Ev d 123 1 [some (.ref x), l1] [.ref x] σ Q := ev_A1 d123_0 rfl
theorem d123_1 : decode (ab_C 123) 1 = .ok (.iconst 0, 1) := by decide +kernel
theorem e123_1 {d : Nat} {l0 l1 : Option Value} {s0 : Nat} {σ : ab_St} {Q : Option Value → ab_St → Prop} : Ev d 123 1 [l0, l1] [.ref s0] σ Q = Ev d 123 2 [l0, l1] [.int 0, .ref s0] σ Q := ev_A1 d123_1 rfl
theorem d123_2 : decode (ab_C 123) 2 = .ok (.putfield 79, 3) := by decide +kernel
theorem e123_2 {d : Nat} {l0 l1 : Option Value} {s0 : Int32} {s1 : Nat} {σ : ab_St} {Q : Option Value → ab_St → Prop} : Ev d 123 2 [l0, l1] [.int s0, .ref s1] σ Q = (ab_k s1 = 10 ∧ Ev d 123 5 [l0, l1] [] (ab_wI σ s1 (upd (σ.1 s1) 0 s0)) Q) := ev_Hc (c := ab_k s1 = 10) d123_2 rfl rfl rfl rfl rfl rfl rfl rfl
theorem d123_5 : decode (ab_C 123) 5 = .ok (.aload_n 0, 1) := by decide +kernel
theorem e123_5 {d : Nat} {l1 : Option Value} {x : Nat} {σ : ab_St} {Q : Option Value → ab_St → Prop} : Ev d 123 5 [some (.ref x), l1] [] σ Q = Ev d 123 6 [some (.ref x), l1] [.ref x] σ Q := ev_A1 d123_5 rfl
theorem d123_6 : decode (ab_C 123) 6 = .ok (.iload_n 1, 1) := by decide +kernel
theorem e123_6 {d : Nat} {l0 : Option Value} {x : Int32} {s0 : Nat} {σ : ab_St} {Q : Option Value → ab_St → Prop} : Ev d 123 6 [l0, some (.int x)] [.ref s0] σ Q = Ev d 123 7 [l0, some (.int x)] [.int x, .ref s0] σ Q := ev_A1 d123_6 rfl
theorem d123_7 : decode (ab_C 123) 7 = .ok (.invokevirtual 170, 3) := by decide +kernel
theorem e123_7 {d : Nat} {l0 l1 : Option Value} {s0 : Int32} {s1 : Nat} {σ : ab_St} {Q : Option Value → ab_St → Prop} : Ev (d + 1) 123 7 [l0, l1] [.int s0, .ref s1] σ Q = (ab_k s1 = 10 ∧ Ev d 119 0 [some (.ref s1), some (.int s0)] [] σ (fun r σ2 => Ev (d + 1) 123 10 [l0, l1] (r.toList ++ []) σ2 Q)) := ev_KV (b := s1) (ls := [l0, l1]) (st := [.int s0, .ref s1]) (as := [.int s0]) (rest := []) d123_7 rfl rfl rfl (Nat.le_of_ble_eq_true rfl) (Nat.le_of_ble_eq_true rfl) (Nat.le_of_ble_eq_true rfl) rfl rfl rfl rfl rfl rfl rfl
theorem d123_10 : decode (ab_C 123) 10 = .ok (.ifCond .eq 5, 3) := by decide +kernel
theorem e123_10 {d : Nat} {l0 l1 : Option Value} {s0 : Int32} {σ : ab_St} {Q : Option Value → ab_St → Prop} : Ev d 123 10 [l0, l1] [.int s0] σ Q = if s0 = 0 then Ev d 123 15 [l0, l1] [] σ Q else Ev d 123 13 [l0, l1] [] σ Q := ev_B (c := s0 = 0) d123_10 rfl rfl rfl rfl rfl
theorem d123_13 : decode (ab_C 123) 13 = .ok (.iconst (-1), 1) := by decide +kernel
theorem e123_13 {d : Nat} {l0 l1 : Option Value} {σ : ab_St} {Q : Option Value → ab_St → Prop} : Ev d 123 13 [l0, l1] [] σ Q = Ev d 123 14 [l0, l1] [.int (-1)] σ Q := ev_A1 d123_13 rfl
theorem d123_14 : decode (ab_C 123) 14 = .ok (.ireturn, 1) := by decide +kernel
theorem e123_14 {d : Nat} {l0 l1 : Option Value} {s0 : Int32} {σ : ab_St} {Q : Option Value → ab_St → Prop} : Ev d 123 14 [l0, l1] [.int s0] σ Q = Q (some (.int s0)) σ := ev_E d123_14 rfl rfl rfl rfl rfl rfl rfl
theorem d123_15 : decode (ab_C 123) 15 = .ok (.aload_n 0, 1) := by decide +kernel
theorem e123_15 {d : Nat} {l1 : Option Value} {x : Nat} {σ : ab_St} {Q : Option Value → ab_St → Prop} : Ev d 123 15 [some (.ref x), l1] [] σ Q = Ev d 123 16 [some (.ref x), l1] [.ref x] σ Q := ev_A1 d123_15 rfl
theorem d123_16 : decode (ab_C 123) 16 = .ok (.invokevirtual 158, 3) := by decide +kernel
theorem e123_16 {d : Nat} {l0 l1 : Option Value} {s0 : Nat} {σ : ab_St} {Q : Option Value → ab_St → Prop} : Ev (d + 1) 123 16 [l0, l1] [.ref s0] σ Q = (ab_k s0 = 10 ∧ Ev d 112 0 [some (.ref s0), none] [] σ (fun r σ2 => Ev (d + 1) 123 19 [l0, l1] (r.toList ++ []) σ2 Q)) := ev_KV (b := s0) (ls := [l0, l1]) (st := [.ref s0]) (as := []) (rest := []) d123_16 rfl rfl rfl (Nat.le_of_ble_eq_true rfl) (Nat.le_of_ble_eq_true rfl) (Nat.le_of_ble_eq_true rfl) rfl rfl rfl rfl rfl rfl rfl
theorem d123_19 : decode (ab_C 123) 19 = .ok (.aload_n 0, 1) := by decide +kernel
theorem e123_19 {d : Nat} {l1 : Option Value} {x : Nat} {σ : ab_St} {Q : Option Value → ab_St → Prop} : Ev d 123 19 [some (.ref x), l1] [] σ Q = Ev d 123 20 [some (.ref x), l1] [.ref x] σ Q := ev_A1 d123_19 rfl
theorem d123_20 : decode (ab_C 123) 20 = .ok (.iload_n 1, 1) := by decide +kernel
theorem e123_20 {d : Nat} {l0 : Option Value} {x : Int32} {s0 : Nat} {σ : ab_St} {Q : Option Value → ab_St → Prop} : Ev d 123 20 [l0, some (.int x)] [.ref s0] σ Q = Ev d 123 21 [l0, some (.int x)] [.int x, .ref s0] σ Q := ev_A1 d123_20 rfl
theorem d123_21 : decode (ab_C 123) 21 = .ok (.invokevirtual 175, 3) := by decide +kernel
theorem e123_21 {d : Nat} {l0 l1 : Option Value} {s0 : Int32} {s1 : Nat} {σ : ab_St} {Q : Option Value → ab_St → Prop} : Ev (d + 1) 123 21 [l0, l1] [.int s0, .ref s1] σ Q = (ab_k s1 = 10 ∧ Ev d 122 0 [some (.ref s1), some (.int s0)] [] σ (fun r σ2 => Ev (d + 1) 123 24 [l0, l1] (r.toList ++ []) σ2 Q)) := ev_KV (b := s1) (ls := [l0, l1]) (st := [.int s0, .ref s1]) (as := [.int s0]) (rest := []) d123_21 rfl rfl rfl (Nat.le_of_ble_eq_true rfl) (Nat.le_of_ble_eq_true rfl) (Nat.le_of_ble_eq_true rfl) rfl rfl rfl rfl rfl rfl rfl
theorem d123_24 : decode (ab_C 123) 24 = .ok (.ifCond .ne 6, 3) := by decide +kernel
theorem e123_24 {d : Nat} {l0 l1 : Option Value} {s0 : Int32} {σ : ab_St} {Q : Option Value → ab_St → Prop} : Ev d 123 24 [l0, l1] [.int s0] σ Q = if s0 = 0 then Ev d 123 27 [l0, l1] [] σ Q else Ev d 123 30 [l0, l1] [] σ Q := ev_B (c := s0 = 0) d123_24 rfl rfl rfl rfl rfl
theorem d123_27 : decode (ab_C 123) 27 = .ok (.bipush (-3), 2) := by decide +kernel
theorem e123_27 {d : Nat} {l0 l1 : Option Value} {σ : ab_St} {Q : Option Value → ab_St → Prop} : Ev d 123 27 [l0, l1] [] σ Q = Ev d 123 29 [l0, l1] [.int (-3)] σ Q := ev_A1 d123_27 rfl
theorem d123_29 : decode (ab_C 123) 29 = .ok (.ireturn, 1) := by decide +kernel
theorem e123_29 {d : Nat} {l0 l1 : Option Value} {s0 : Int32} {σ : ab_St} {Q : Option Value → ab_St → Prop} : Ev d 123 29 [l0, l1] [.int s0] σ Q = Q (some (.int s0)) σ := ev_E d123_29 rfl rfl rfl rfl rfl rfl rfl
theorem d123_30 : decode (ab_C 123) 30 = .ok (.aload_n 0, 1) := by decide +kernel
theorem e123_30 {d : Nat} {l1 : Option Value} {x : Nat} {σ : ab_St} {Q : Option Value → ab_St → Prop} : Ev d 123 30 [some (.ref x), l1] [] σ Q = Ev d 123 31 [some (.ref x), l1] [.ref x] σ Q := ev_A1 d123_30 rfl
theorem d123_31 : decode (ab_C 123) 31 = .ok (.invokevirtual 182, 3) := by decide +kernel
theorem e123_31 {d : Nat} {l0 l1 : Option Value} {s0 : Nat} {σ : ab_St} {Q : Option Value → ab_St → Prop} : Ev (d + 1) 123 31 [l0, l1] [.ref s0] σ Q = (ab_k s0 = 10 ∧ Ev d 124 0 [some (.ref s0), none] [] σ (fun r σ2 => Ev (d + 1) 123 34 [l0, l1] (r.toList ++ []) σ2 Q)) := ev_KV (b := s0) (ls := [l0, l1]) (st := [.ref s0]) (as := []) (rest := []) d123_31 rfl rfl rfl (Nat.le_of_ble_eq_true rfl) (Nat.le_of_ble_eq_true rfl) (Nat.le_of_ble_eq_true rfl) rfl rfl rfl rfl rfl rfl rfl
theorem d123_34 : decode (ab_C 123) 34 = .ok (.aload_n 0, 1) := by decide +kernel
theorem e123_34 {d : Nat} {l1 : Option Value} {x : Nat} {σ : ab_St} {Q : Option Value → ab_St → Prop} : Ev d 123 34 [some (.ref x), l1] [] σ Q = Ev d 123 35 [some (.ref x), l1] [.ref x] σ Q := ev_A1 d123_34 rfl
theorem d123_35 : decode (ab_C 123) 35 = .ok (.dup, 1) := by decide +kernel
theorem e123_35 {d : Nat} {l0 l1 : Option Value} {s0 : Nat} {σ : ab_St} {Q : Option Value → ab_St → Prop} : Ev d 123 35 [l0, l1] [.ref s0] σ Q = Ev d 123 36 [l0, l1] [.ref s0, .ref s0] σ Q := ev_A1 d123_35 rfl
theorem d123_36 : decode (ab_C 123) 36 = .ok (.getfield 141, 3) := by decide +kernel
theorem e123_36 {d : Nat} {l0 l1 : Option Value} {s0 : Nat} {s1 : Nat} {σ : ab_St} {Q : Option Value → ab_St → Prop} : Ev d 123 36 [l0, l1] [.ref s0, .ref s1] σ Q = (ab_k s0 = 10 ∧ Ev d 123 39 [l0, l1] [.int (σ.1 s0 13), .ref s1] σ Q) := ev_Hc (c := ab_k s0 = 10) d123_36 rfl rfl rfl rfl rfl rfl rfl rfl
theorem d123_39 : decode (ab_C 123) 39 = .ok (.iconst 1, 1) := by decide +kernel
theorem e123_39 {d : Nat} {l0 l1 : Option Value} {s0 : Int32} {s1 : Nat} {σ : ab_St} {Q : Option Value → ab_St → Prop} : Ev d 123 39 [l0, l1] [.int s0, .ref s1] σ Q = Ev d 123 40 [l0, l1] [.int 1, .int s0, .ref s1] σ Q := ev_A1 d123_39 rfl
theorem d123_40 : decode (ab_C 123) 40 = .ok (.iload_n 1, 1) := by decide +kernel
theorem e123_40 {d : Nat} {l0 : Option Value} {x : Int32} {s0 : Int32} {s1 : Int32} {s2 : Nat} {σ : ab_St} {Q : Option Value → ab_St → Prop} : Ev d 123 40 [l0, some (.int x)] [.int s0, .int s1, .ref s2] σ Q = Ev d 123 41 [l0, some (.int x)] [.int x, .int s0, .int s1, .ref s2] σ Q := ev_A1 d123_40 rfl
theorem d123_41 : decode (ab_C 123) 41 = .ok (.ishl, 1) := by decide +kernel
theorem e123_41 {d : Nat} {l0 l1 : Option Value} {s0 : Int32} {s1 : Int32} {s2 : Int32} {s3 : Nat} {σ : ab_St} {Q : Option Value → ab_St → Prop} : Ev d 123 41 [l0, l1] [.int s0, .int s1, .int s2, .ref s3] σ Q = Ev d 123 42 [l0, l1] [.int (s1 <<< (s0 &&& 31)), .int s2, .ref s3] σ Q := ev_A2 d123_41 rfl rfl
theorem d123_42 : decode (ab_C 123) 42 = .ok (.ior, 1) := by decide +kernel
theorem e123_42 {d : Nat} {l0 l1 : Option Value} {s0 : Int32} {s1 : Int32} {s2 : Nat} {σ : ab_St} {Q : Option Value → ab_St → Prop} : Ev d 123 42 [l0, l1] [.int s0, .int s1, .ref s2] σ Q = Ev d 123 43 [l0, l1] [.int (s1 ||| s0), .ref s2] σ Q := ev_A2 d123_42 rfl rfl
theorem d123_43 : decode (ab_C 123) 43 = .ok (.putfield 141, 3) := by decide +kernel
theorem e123_43 {d : Nat} {l0 l1 : Option Value} {s0 : Int32} {s1 : Nat} {σ : ab_St} {Q : Option Value → ab_St → Prop} : Ev d 123 43 [l0, l1] [.int s0, .ref s1] σ Q = (ab_k s1 = 10 ∧ Ev d 123 46 [l0, l1] [] (ab_wI σ s1 (upd (σ.1 s1) 13 s0)) Q) := ev_Hc (c := ab_k s1 = 10) d123_43 rfl rfl rfl rfl rfl rfl rfl rfl
theorem d123_46 : decode (ab_C 123) 46 = .ok (.aload_n 0, 1) := by decide +kernel
theorem e123_46 {d : Nat} {l1 : Option Value} {x : Nat} {σ : ab_St} {Q : Option Value → ab_St → Prop} : Ev d 123 46 [some (.ref x), l1] [] σ Q = Ev d 123 47 [some (.ref x), l1] [.ref x] σ Q := ev_A1 d123_46 rfl
theorem d123_47 : decode (ab_C 123) 47 = .ok (.getfield 13, 3) := by decide +kernel
theorem e123_47 {d : Nat} {l0 l1 : Option Value} {s0 : Nat} {σ : ab_St} {Q : Option Value → ab_St → Prop} : Ev d 123 47 [l0, l1] [.ref s0] σ Q = (ab_k s0 = 10 ∧ Ev d 123 50 [l0, l1] [.ref (ab_r s0 6)] σ Q) := ev_Hc (c := ab_k s0 = 10) d123_47 rfl rfl rfl rfl rfl rfl rfl rfl
theorem d123_50 : decode (ab_C 123) 50 = .ok (.aload_n 0, 1) := by decide +kernel
theorem e123_50 {d : Nat} {l1 : Option Value} {x : Nat} {s0 : Nat} {σ : ab_St} {Q : Option Value → ab_St → Prop} : Ev d 123 50 [some (.ref x), l1] [.ref s0] σ Q = Ev d 123 51 [some (.ref x), l1] [.ref x, .ref s0] σ Q := ev_A1 d123_50 rfl
theorem d123_51 : decode (ab_C 123) 51 = .ok (.getfield 16, 3) := by decide +kernel
theorem e123_51 {d : Nat} {l0 l1 : Option Value} {s0 : Nat} {s1 : Nat} {σ : ab_St} {Q : Option Value → ab_St → Prop} : Ev d 123 51 [l0, l1] [.ref s0, .ref s1] σ Q = (ab_k s0 = 10 ∧ Ev d 123 54 [l0, l1] [.ref (ab_r s0 9), .ref s1] σ Q) := ev_Hc (c := ab_k s0 = 10) d123_51 rfl rfl rfl rfl rfl rfl rfl rfl
theorem d123_54 : decode (ab_C 123) 54 = .ok (.iload_n 1, 1) := by decide +kernel
theorem e123_54 {d : Nat} {l0 : Option Value} {x : Int32} {s0 : Nat} {s1 : Nat} {σ : ab_St} {Q : Option Value → ab_St → Prop} : Ev d 123 54 [l0, some (.int x)] [.ref s0, .ref s1] σ Q = Ev d 123 55 [l0, some (.int x)] [.int x, .ref s0, .ref s1] σ Q := ev_A1 d123_54 rfl
theorem d123_55 : decode (ab_C 123) 55 = .ok (.iaload, 1) := by decide +kernel
theorem e123_55 {d : Nat} {l0 l1 : Option Value} {s0 : Int32} {s1 : Nat} {s2 : Nat} {σ : ab_St} {Q : Option Value → ab_St → Prop} : Ev d 123 55 [l0, l1] [.int s0, .ref s1, .ref s2] σ Q = ((ab_k s1 = 100 ∧ ab_in s0 (ab_n s1)) ∧ Ev d 123 56 [l0, l1] [.int (σ.1 s1 s0.toNatClampNeg), .ref s2] σ Q) := ev_Hc (c := ab_k s1 = 100 ∧ ab_in s0 (ab_n s1)) d123_55 rfl rfl rfl rfl rfl rfl rfl rfl
theorem d123_56 : decode (ab_C 123) 56 = .ok (.dup2, 1) := by decide +kernel
theorem e123_56 {d : Nat} {l0 l1 : Option Value} {s0 : Int32} {s1 : Nat} {σ : ab_St} {Q : Option Value → ab_St → Prop} : Ev d 123 56 [l0, l1] [.int s0, .ref s1] σ Q = Ev d 123 57 [l0, l1] [.int s0, .ref s1, .int s0, .ref s1] σ Q := ev_A1 d123_56 rfl
theorem d123_57 : decode (ab_C 123) 57 = .ok (.iaload, 1) := by decide +kernel
theorem e123_57 {d : Nat} {l0 l1 : Option Value} {s0 : Int32} {s1 : Nat} {s2 : Int32} {s3 : Nat} {σ : ab_St} {Q : Option Value → ab_St → Prop} : Ev d 123 57 [l0, l1] [.int s0, .ref s1, .int s2, .ref s3] σ Q = ((ab_k s1 = 100 ∧ ab_in s0 (ab_n s1)) ∧ Ev d 123 58 [l0, l1] [.int (σ.1 s1 s0.toNatClampNeg), .int s2, .ref s3] σ Q) := ev_Hc (c := ab_k s1 = 100 ∧ ab_in s0 (ab_n s1)) d123_57 rfl rfl rfl rfl rfl rfl rfl rfl
theorem d123_58 : decode (ab_C 123) 58 = .ok (.aload_n 0, 1) := by decide +kernel
theorem e123_58 {d : Nat} {l1 : Option Value} {x : Nat} {s0 : Int32} {s1 : Int32} {s2 : Nat} {σ : ab_St} {Q : Option Value → ab_St → Prop} : Ev d 123 58 [some (.ref x), l1] [.int s0, .int s1, .ref s2] σ Q = Ev d 123 59 [some (.ref x), l1] [.ref x, .int s0, .int s1, .ref s2] σ Q := ev_A1 d123_58 rfl
theorem d123_59 : decode (ab_C 123) 59 = .ok (.getfield 19, 3) := by decide +kernel
theorem e123_59 {d : Nat} {l0 l1 : Option Value} {s0 : Nat} {s1 : Int32} {s2 : Int32} {s3 : Nat} {σ : ab_St} {Q : Option Value → ab_St → Prop} : Ev d 123 59 [l0, l1] [.ref s0, .int s1, .int s2, .ref s3] σ Q = (ab_k s0 = 10 ∧ Ev d 123 62 [l0, l1] [.ref (ab_r s0 10), .int s1, .int s2, .ref s3] σ Q) := ev_Hc (c := ab_k s0 = 10) d123_59 rfl rfl rfl rfl rfl rfl rfl rfl
theorem d123_62 : decode (ab_C 123) 62 = .ok (.iload_n 1, 1) := by decide +kernel
theorem e123_62 {d : Nat} {l0 : Option Value} {x : Int32} {s0 : Nat} {s1 : Int32} {s2 : Int32} {s3 : Nat} {σ : ab_St} {Q : Option Value → ab_St → Prop} : Ev d 123 62 [l0, some (.int x)] [.ref s0, .int s1, .int s2, .ref s3] σ Q = Ev d 123 63 [l0, some (.int x)] [.int x, .ref s0, .int s1, .int s2, .ref s3] σ Q := ev_A1 d123_62 rfl
theorem d123_63 : decode (ab_C 123) 63 = .ok (.iaload, 1) := by decide +kernel
theorem e123_63 {d : Nat} {l0 l1 : Option Value} {s0 : Int32} {s1 : Nat} {s2 : Int32} {s3 : Int32} {s4 : Nat} {σ : ab_St} {Q : Option Value → ab_St → Prop} : Ev d 123 63 [l0, l1] [.int s0, .ref s1, .int s2, .int s3, .ref s4] σ Q = ((ab_k s1 = 100 ∧ ab_in s0 (ab_n s1)) ∧ Ev d 123 64 [l0, l1] [.int (σ.1 s1 s0.toNatClampNeg), .int s2, .int s3, .ref s4] σ Q) := ev_Hc (c := ab_k s1 = 100 ∧ ab_in s0 (ab_n s1)) d123_63 rfl rfl rfl rfl rfl rfl rfl rfl
theorem d123_64 : decode (ab_C 123) 64 = .ok (.iadd, 1) := by decide +kernel
theorem e123_64 {d : Nat} {l0 l1 : Option Value} {s0 : Int32} {s1 : Int32} {s2 : Int32} {s3 : Nat} {σ : ab_St} {Q : Option Value → ab_St → Prop} : Ev d 123 64 [l0, l1] [.int s0, .int s1, .int s2, .ref s3] σ Q = Ev d 123 65 [l0, l1] [.int (s1 + s0), .int s2, .ref s3] σ Q := ev_A2 d123_64 rfl rfl
theorem d123_65 : decode (ab_C 123) 65 = .ok (.iastore, 1) := by decide +kernel
theorem e123_65 {d : Nat} {l0 l1 : Option Value} {s0 : Int32} {s1 : Int32} {s2 : Nat} {σ : ab_St} {Q : Option Value → ab_St → Prop} : Ev d 123 65 [l0, l1] [.int s0, .int s1, .ref s2] σ Q = ((ab_k s2 = 100 ∧ ab_in s1 (ab_n s2)) ∧ Ev d 123 66 [l0, l1] [] (ab_wI σ s2 (upd (σ.1 s2) s1.toNatClampNeg s0)) Q) := ev_Hc (c := ab_k s2 = 100 ∧ ab_in s1 (ab_n s2)) d123_65 rfl rfl rfl rfl rfl rfl rfl rfl
theorem d123_66 : decode (ab_C 123) 66 = .ok (.aload_n 0, 1) := by decide +kernel
theorem e123_66 {d : Nat} {l1 : Option Value} {x : Nat} {σ : ab_St} {Q : Option Value → ab_St → Prop} : Ev d 123 66 [some (.ref x), l1] [] σ Q = Ev d 123 67 [some (.ref x), l1] [.ref x] σ Q := ev_A1 d123_66 rfl
theorem d123_67 : decode (ab_C 123) 67 = .ok (.iload_n 1, 1) := by decide +kernel
theorem e123_67 {d : Nat} {l0 : Option Value} {x : Int32} {s0 : Nat} {σ : ab_St} {Q : Option Value → ab_St → Prop} : Ev d 123 67 [l0, some (.int x)] [.ref s0] σ Q = Ev d 123 68 [l0, some (.int x)] [.int x, .ref s0] σ Q := ev_A1 d123_67 rfl
theorem d123_68 : decode (ab_C 123) 68 = .ok (.putfield 28, 3) := by decide +kernel
theorem e123_68 {d : Nat} {l0 l1 : Option Value} {s0 : Int32} {s1 : Nat} {σ : ab_St} {Q : Option Value → ab_St → Prop} : Ev d 123 68 [l0, l1] [.int s0, .ref s1] σ Q = (ab_k s1 = 10 ∧ Ev d 123 71 [l0, l1] [] (ab_wI σ s1 (upd (σ.1 s1) 14 s0)) Q) := ev_Hc (c := ab_k s1 = 10) d123_68 rfl rfl rfl rfl rfl rfl rfl rfl
theorem d123_71 : decode (ab_C 123) 71 = .ok (.aload_n 0, 1) := by decide +kernel
theorem e123_71 {d : Nat} {l1 : Option Value} {x : Nat} {σ : ab_St} {Q : Option Value → ab_St → Prop} : Ev d 123 71 [some (.ref x), l1] [] σ Q = Ev d 123 72 [some (.ref x), l1] [.ref x] σ Q := ev_A1 d123_71 rfl
theorem d123_72 : decode (ab_C 123) 72 = .ok (.getfield 13, 3) := by decide +kernel
theorem e123_72 {d : Nat} {l0 l1 : Option Value} {s0 : Nat} {σ : ab_St} {Q : Option Value → ab_St → Prop} : Ev d 123 72 [l0, l1] [.ref s0] σ Q = (ab_k s0 = 10 ∧ Ev d 123 75 [l0, l1] [.ref (ab_r s0 6)] σ Q) := ev_Hc (c := ab_k s0 = 10) d123_72 rfl rfl rfl rfl rfl rfl rfl rfl
theorem d123_75 : decode (ab_C 123) 75 = .ok (.aload_n 0, 1) := by decide +kernel
theorem e123_75 {d : Nat} {l1 : Option Value} {x : Nat} {s0 : Nat} {σ : ab_St} {Q : Option Value → ab_St → Prop} : Ev d 123 75 [some (.ref x), l1] [.ref s0] σ Q = Ev d 123 76 [some (.ref x), l1] [.ref x, .ref s0] σ Q := ev_A1 d123_75 rfl
theorem d123_76 : decode (ab_C 123) 76 = .ok (.getfield 16, 3) := by decide +kernel
theorem e123_76 {d : Nat} {l0 l1 : Option Value} {s0 : Nat} {s1 : Nat} {σ : ab_St} {Q : Option Value → ab_St → Prop} : Ev d 123 76 [l0, l1] [.ref s0, .ref s1] σ Q = (ab_k s0 = 10 ∧ Ev d 123 79 [l0, l1] [.ref (ab_r s0 9), .ref s1] σ Q) := ev_Hc (c := ab_k s0 = 10) d123_76 rfl rfl rfl rfl rfl rfl rfl rfl
theorem d123_79 : decode (ab_C 123) 79 = .ok (.iload_n 1, 1) := by decide +kernel
theorem e123_79 {d : Nat} {l0 : Option Value} {x : Int32} {s0 : Nat} {s1 : Nat} {σ : ab_St} {Q : Option Value → ab_St → Prop} : Ev d 123 79 [l0, some (.int x)] [.ref s0, .ref s1] σ Q = Ev d 123 80 [l0, some (.int x)] [.int x, .ref s0, .ref s1] σ Q := ev_A1 d123_79 rfl
theorem d123_80 : decode (ab_C 123) 80 = .ok (.iaload, 1) := by decide +kernel
theorem e123_80 {d : Nat} {l0 l1 : Option Value} {s0 : Int32} {s1 : Nat} {s2 : Nat} {σ : ab_St} {Q : Option Value → ab_St → Prop} : Ev d 123 80 [l0, l1] [.int s0, .ref s1, .ref s2] σ Q = ((ab_k s1 = 100 ∧ ab_in s0 (ab_n s1)) ∧ Ev d 123 81 [l0, l1] [.int (σ.1 s1 s0.toNatClampNeg), .ref s2] σ Q) := ev_Hc (c := ab_k s1 = 100 ∧ ab_in s0 (ab_n s1)) d123_80 rfl rfl rfl rfl rfl rfl rfl rfl
theorem d123_81 : decode (ab_C 123) 81 = .ok (.iaload, 1) := by decide +kernel
theorem e123_81 {d : Nat} {l0 l1 : Option Value} {s0 : Int32} {s1 : Nat} {σ : ab_St} {Q : Option Value → ab_St → Prop} : Ev d 123 81 [l0, l1] [.int s0, .ref s1] σ Q = ((ab_k s1 = 100 ∧ ab_in s0 (ab_n s1)) ∧ Ev d 123 82 [l0, l1] [.int (σ.1 s1 s0.toNatClampNeg)] σ Q) := ev_Hc (c := ab_k s1 = 100 ∧ ab_in s0 (ab_n s1)) d123_81 rfl rfl rfl rfl rfl rfl rfl rfl
theorem d123_82 : decode (ab_C 123) 82 = .ok (.ireturn, 1) := by decide +kernel
theorem e123_82 {d : Nat} {l0 l1 : Option Value} {s0 : Int32} {σ : ab_St} {Q : Option Value → ab_St → Prop} : Ev d 123 82 [l0, l1] [.int s0] σ Q = Q (some (.int s0)) σ := ev_E d123_82 rfl rfl rfl rfl rfl rfl rfl
/-! SaidLeastModel.note()V -/
theorem d124_0 : decode (ab_C 124) 0 = .ok (.aload_n 0, 1) := by decide +kernel
theorem e124_0 {d : Nat} {l1 : Option Value} {x : Nat} {σ : ab_St} {Q : Option Value → ab_St → Prop} : Ev d 124 0 [some (.ref x), l1] [] σ Q = Ev d 124 1 [some (.ref x), l1] [.ref x] σ Q := ev_A1 d124_0 rfl
theorem d124_1 : decode (ab_C 124) 1 = .ok (.getfield 144, 3) := by decide +kernel
theorem e124_1 {d : Nat} {l0 l1 : Option Value} {s0 : Nat} {σ : ab_St} {Q : Option Value → ab_St → Prop} : Ev d 124 1 [l0, l1] [.ref s0] σ Q = (ab_k s0 = 10 ∧ Ev d 124 4 [l0, l1] [.int (σ.1 s0 25)] σ Q) := ev_Hc (c := ab_k s0 = 10) d124_1 rfl rfl rfl rfl rfl rfl rfl rfl
theorem d124_4 : decode (ab_C 124) 4 = .ok (.bipush 12, 2) := by decide +kernel
theorem e124_4 {d : Nat} {l0 l1 : Option Value} {s0 : Int32} {σ : ab_St} {Q : Option Value → ab_St → Prop} : Ev d 124 4 [l0, l1] [.int s0] σ Q = Ev d 124 6 [l0, l1] [.int 12, .int s0] σ Q := ev_A1 d124_4 rfl
theorem d124_6 : decode (ab_C 124) 6 = .ok (.if_icmp .ne 43, 3) := by decide +kernel
theorem e124_6 {d : Nat} {l0 l1 : Option Value} {s0 : Int32} {s1 : Int32} {σ : ab_St} {Q : Option Value → ab_St → Prop} : Ev d 124 6 [l0, l1] [.int s0, .int s1] σ Q = if s1 = s0 then Ev d 124 9 [l0, l1] [] σ Q else Ev d 124 49 [l0, l1] [] σ Q := ev_B (c := s1 = s0) d124_6 rfl rfl rfl rfl rfl
theorem d124_9 : decode (ab_C 124) 9 = .ok (.iconst 0, 1) := by decide +kernel
theorem e124_9 {d : Nat} {l0 l1 : Option Value} {σ : ab_St} {Q : Option Value → ab_St → Prop} : Ev d 124 9 [l0, l1] [] σ Q = Ev d 124 10 [l0, l1] [.int 0] σ Q := ev_A1 d124_9 rfl
theorem d124_10 : decode (ab_C 124) 10 = .ok (.istore_n 1, 1) := by decide +kernel
theorem e124_10 {d : Nat} {l0 l1 : Option Value} {s0 : Int32} {σ : ab_St} {Q : Option Value → ab_St → Prop} : Ev d 124 10 [l0, l1] [.int s0] σ Q = Ev d 124 11 [l0, some (.int s0)] [] σ Q := ev_S d124_10 rfl rfl rfl rfl
theorem d124_11 : decode (ab_C 124) 11 = .ok (.iload_n 1, 1) := by decide +kernel
theorem e124_11 {d : Nat} {l0 : Option Value} {x : Int32} {σ : ab_St} {Q : Option Value → ab_St → Prop} : Ev d 124 11 [l0, some (.int x)] [] σ Q = Ev d 124 12 [l0, some (.int x)] [.int x] σ Q := ev_A1 d124_11 rfl
theorem d124_12 : decode (ab_C 124) 12 = .ok (.sipush 176, 3) := by decide +kernel
theorem e124_12 {d : Nat} {l0 l1 : Option Value} {s0 : Int32} {σ : ab_St} {Q : Option Value → ab_St → Prop} : Ev d 124 12 [l0, l1] [.int s0] σ Q = Ev d 124 15 [l0, l1] [.int 176, .int s0] σ Q := ev_A1 d124_12 rfl
theorem d124_15 : decode (ab_C 124) 15 = .ok (.if_icmp .ge 24, 3) := by decide +kernel
theorem e124_15 {d : Nat} {l0 l1 : Option Value} {s0 : Int32} {s1 : Int32} {σ : ab_St} {Q : Option Value → ab_St → Prop} : Ev d 124 15 [l0, l1] [.int s0, .int s1] σ Q = if s0 ≤ s1 then Ev d 124 39 [l0, l1] [] σ Q else Ev d 124 18 [l0, l1] [] σ Q := ev_B (c := s0 ≤ s1) d124_15 rfl rfl rfl rfl rfl
theorem d124_18 : decode (ab_C 124) 18 = .ok (.aload_n 0, 1) := by decide +kernel
theorem e124_18 {d : Nat} {l1 : Option Value} {x : Nat} {σ : ab_St} {Q : Option Value → ab_St → Prop} : Ev d 124 18 [some (.ref x), l1] [] σ Q = Ev d 124 19 [some (.ref x), l1] [.ref x] σ Q := ev_A1 d124_18 rfl
theorem d124_19 : decode (ab_C 124) 19 = .ok (.getfield 47, 3) := by decide +kernel
theorem e124_19 {d : Nat} {l0 l1 : Option Value} {s0 : Nat} {σ : ab_St} {Q : Option Value → ab_St → Prop} : Ev d 124 19 [l0, l1] [.ref s0] σ Q = (ab_k s0 = 10 ∧ Ev d 124 22 [l0, l1] [.ref (ab_r s0 24)] σ Q) := ev_Hc (c := ab_k s0 = 10) d124_19 rfl rfl rfl rfl rfl rfl rfl rfl
theorem d124_22 : decode (ab_C 124) 22 = .ok (.iload_n 1, 1) := by decide +kernel
theorem e124_22 {d : Nat} {l0 : Option Value} {x : Int32} {s0 : Nat} {σ : ab_St} {Q : Option Value → ab_St → Prop} : Ev d 124 22 [l0, some (.int x)] [.ref s0] σ Q = Ev d 124 23 [l0, some (.int x)] [.int x, .ref s0] σ Q := ev_A1 d124_22 rfl
theorem d124_23 : decode (ab_C 124) 23 = .ok (.aload_n 0, 1) := by decide +kernel
theorem e124_23 {d : Nat} {l1 : Option Value} {x : Nat} {s0 : Int32} {s1 : Nat} {σ : ab_St} {Q : Option Value → ab_St → Prop} : Ev d 124 23 [some (.ref x), l1] [.int s0, .ref s1] σ Q = Ev d 124 24 [some (.ref x), l1] [.ref x, .int s0, .ref s1] σ Q := ev_A1 d124_23 rfl
theorem d124_24 : decode (ab_C 124) 24 = .ok (.getfield 47, 3) := by decide +kernel
theorem e124_24 {d : Nat} {l0 l1 : Option Value} {s0 : Nat} {s1 : Int32} {s2 : Nat} {σ : ab_St} {Q : Option Value → ab_St → Prop} : Ev d 124 24 [l0, l1] [.ref s0, .int s1, .ref s2] σ Q = (ab_k s0 = 10 ∧ Ev d 124 27 [l0, l1] [.ref (ab_r s0 24), .int s1, .ref s2] σ Q) := ev_Hc (c := ab_k s0 = 10) d124_24 rfl rfl rfl rfl rfl rfl rfl rfl
theorem d124_27 : decode (ab_C 124) 27 = .ok (.iload_n 1, 1) := by decide +kernel
theorem e124_27 {d : Nat} {l0 : Option Value} {x : Int32} {s0 : Nat} {s1 : Int32} {s2 : Nat} {σ : ab_St} {Q : Option Value → ab_St → Prop} : Ev d 124 27 [l0, some (.int x)] [.ref s0, .int s1, .ref s2] σ Q = Ev d 124 28 [l0, some (.int x)] [.int x, .ref s0, .int s1, .ref s2] σ Q := ev_A1 d124_27 rfl
theorem d124_28 : decode (ab_C 124) 28 = .ok (.bipush 16, 2) := by decide +kernel
theorem e124_28 {d : Nat} {l0 l1 : Option Value} {s0 : Int32} {s1 : Nat} {s2 : Int32} {s3 : Nat} {σ : ab_St} {Q : Option Value → ab_St → Prop} : Ev d 124 28 [l0, l1] [.int s0, .ref s1, .int s2, .ref s3] σ Q = Ev d 124 30 [l0, l1] [.int 16, .int s0, .ref s1, .int s2, .ref s3] σ Q := ev_A1 d124_28 rfl
theorem d124_30 : decode (ab_C 124) 30 = .ok (.iadd, 1) := by decide +kernel
theorem e124_30 {d : Nat} {l0 l1 : Option Value} {s0 : Int32} {s1 : Int32} {s2 : Nat} {s3 : Int32} {s4 : Nat} {σ : ab_St} {Q : Option Value → ab_St → Prop} : Ev d 124 30 [l0, l1] [.int s0, .int s1, .ref s2, .int s3, .ref s4] σ Q = Ev d 124 31 [l0, l1] [.int (s1 + s0), .ref s2, .int s3, .ref s4] σ Q := ev_A2 d124_30 rfl rfl
theorem d124_31 : decode (ab_C 124) 31 = .ok (.iaload, 1) := by decide +kernel
theorem e124_31 {d : Nat} {l0 l1 : Option Value} {s0 : Int32} {s1 : Nat} {s2 : Int32} {s3 : Nat} {σ : ab_St} {Q : Option Value → ab_St → Prop} : Ev d 124 31 [l0, l1] [.int s0, .ref s1, .int s2, .ref s3] σ Q = ((ab_k s1 = 100 ∧ ab_in s0 (ab_n s1)) ∧ Ev d 124 32 [l0, l1] [.int (σ.1 s1 s0.toNatClampNeg), .int s2, .ref s3] σ Q) := ev_Hc (c := ab_k s1 = 100 ∧ ab_in s0 (ab_n s1)) d124_31 rfl rfl rfl rfl rfl rfl rfl rfl
theorem d124_32 : decode (ab_C 124) 32 = .ok (.iastore, 1) := by decide +kernel
theorem e124_32 {d : Nat} {l0 l1 : Option Value} {s0 : Int32} {s1 : Int32} {s2 : Nat} {σ : ab_St} {Q : Option Value → ab_St → Prop} : Ev d 124 32 [l0, l1] [.int s0, .int s1, .ref s2] σ Q = ((ab_k s2 = 100 ∧ ab_in s1 (ab_n s2)) ∧ Ev d 124 33 [l0, l1] [] (ab_wI σ s2 (upd (σ.1 s2) s1.toNatClampNeg s0)) Q) := ev_Hc (c := ab_k s2 = 100 ∧ ab_in s1 (ab_n s2)) d124_32 rfl rfl rfl rfl rfl rfl rfl rfl
theorem d124_33 : decode (ab_C 124) 33 = .ok (.iinc 1 1, 3) := by decide +kernel
theorem e124_33 {d : Nat} {l0 : Option Value} {x : Int32} {σ : ab_St} {Q : Option Value → ab_St → Prop} : Ev d 124 33 [l0, some (.int x)] [] σ Q = Ev d 124 36 [l0, some (.int (x + 1))] [] σ Q := ev_S d124_33 rfl rfl rfl rfl
theorem d124_36 : decode (ab_C 124) 36 = .ok (.goto (-25), 3) := by decide +kernel
theorem e124_36 {d : Nat} {l0 l1 : Option Value} {σ : ab_St} {Q : Option Value → ab_St → Prop} : Ev d 124 36 [l0, l1] [] σ Q = Ev d 124 11 [l0, l1] [] σ Q := ev_J d124_36 rfl rfl rfl rfl rfl
theorem d124_39 : decode (ab_C 124) 39 = .ok (.aload_n 0, 1) := by decide +kernel
theorem e124_39 {d : Nat} {l1 : Option Value} {x : Nat} {σ : ab_St} {Q : Option Value → ab_St → Prop} : Ev d 124 39 [some (.ref x), l1] [] σ Q = Ev d 124 40 [some (.ref x), l1] [.ref x] σ Q := ev_A1 d124_39 rfl
theorem d124_40 : decode (ab_C 124) 40 = .ok (.dup, 1) := by decide +kernel
theorem e124_40 {d : Nat} {l0 l1 : Option Value} {s0 : Nat} {σ : ab_St} {Q : Option Value → ab_St → Prop} : Ev d 124 40 [l0, l1] [.ref s0] σ Q = Ev d 124 41 [l0, l1] [.ref s0, .ref s0] σ Q := ev_A1 d124_40 rfl
theorem d124_41 : decode (ab_C 124) 41 = .ok (.getfield 144, 3) := by decide +kernel
theorem e124_41 {d : Nat} {l0 l1 : Option Value} {s0 : Nat} {s1 : Nat} {σ : ab_St} {Q : Option Value → ab_St → Prop} : Ev d 124 41 [l0, l1] [.ref s0, .ref s1] σ Q = (ab_k s0 = 10 ∧ Ev d 124 44 [l0, l1] [.int (σ.1 s0 25), .ref s1] σ Q) := ev_Hc (c := ab_k s0 = 10) d124_41 rfl rfl rfl rfl rfl rfl rfl rfl
theorem d124_44 : decode (ab_C 124) 44 = .ok (.iconst 1, 1) := by decide +kernel
theorem e124_44 {d : Nat} {l0 l1 : Option Value} {s0 : Int32} {s1 : Nat} {σ : ab_St} {Q : Option Value → ab_St → Prop} : Ev d 124 44 [l0, l1] [.int s0, .ref s1] σ Q = Ev d 124 45 [l0, l1] [.int 1, .int s0, .ref s1] σ Q := ev_A1 d124_44 rfl
theorem d124_45 : decode (ab_C 124) 45 = .ok (.isub, 1) := by decide +kernel
theorem e124_45 {d : Nat} {l0 l1 : Option Value} {s0 : Int32} {s1 : Int32} {s2 : Nat} {σ : ab_St} {Q : Option Value → ab_St → Prop} : Ev d 124 45 [l0, l1] [.int s0, .int s1, .ref s2] σ Q = Ev d 124 46 [l0, l1] [.int (s1 - s0), .ref s2] σ Q := ev_A2 d124_45 rfl rfl
theorem d124_46 : decode (ab_C 124) 46 = .ok (.putfield 144, 3) := by decide +kernel
theorem e124_46 {d : Nat} {l0 l1 : Option Value} {s0 : Int32} {s1 : Nat} {σ : ab_St} {Q : Option Value → ab_St → Prop} : Ev d 124 46 [l0, l1] [.int s0, .ref s1] σ Q = (ab_k s1 = 10 ∧ Ev d 124 49 [l0, l1] [] (ab_wI σ s1 (upd (σ.1 s1) 25 s0)) Q) := ev_Hc (c := ab_k s1 = 10) d124_46 rfl rfl rfl rfl rfl rfl rfl rfl
theorem d124_49 : decode (ab_C 124) 49 = .ok (.aload_n 0, 1) := by decide +kernel
theorem e124_49 {d : Nat} {l1 : Option Value} {x : Nat} {σ : ab_St} {Q : Option Value → ab_St → Prop} : Ev d 124 49 [some (.ref x), l1] [] σ Q = Ev d 124 50 [some (.ref x), l1] [.ref x] σ Q := ev_A1 d124_49 rfl
theorem d124_50 : decode (ab_C 124) 50 = .ok (.aload_n 0, 1) := by decide +kernel
theorem e124_50 {d : Nat} {l1 : Option Value} {x : Nat} {s0 : Nat} {σ : ab_St} {Q : Option Value → ab_St → Prop} : Ev d 124 50 [some (.ref x), l1] [.ref s0] σ Q = Ev d 124 51 [some (.ref x), l1] [.ref x, .ref s0] σ Q := ev_A1 d124_50 rfl
theorem d124_51 : decode (ab_C 124) 51 = .ok (.getfield 47, 3) := by decide +kernel
theorem e124_51 {d : Nat} {l0 l1 : Option Value} {s0 : Nat} {s1 : Nat} {σ : ab_St} {Q : Option Value → ab_St → Prop} : Ev d 124 51 [l0, l1] [.ref s0, .ref s1] σ Q = (ab_k s0 = 10 ∧ Ev d 124 54 [l0, l1] [.ref (ab_r s0 24), .ref s1] σ Q) := ev_Hc (c := ab_k s0 = 10) d124_51 rfl rfl rfl rfl rfl rfl rfl rfl
theorem d124_54 : decode (ab_C 124) 54 = .ok (.bipush 16, 2) := by decide +kernel
theorem e124_54 {d : Nat} {l0 l1 : Option Value} {s0 : Nat} {s1 : Nat} {σ : ab_St} {Q : Option Value → ab_St → Prop} : Ev d 124 54 [l0, l1] [.ref s0, .ref s1] σ Q = Ev d 124 56 [l0, l1] [.int 16, .ref s0, .ref s1] σ Q := ev_A1 d124_54 rfl
theorem d124_56 : decode (ab_C 124) 56 = .ok (.aload_n 0, 1) := by decide +kernel
theorem e124_56 {d : Nat} {l1 : Option Value} {x : Nat} {s0 : Int32} {s1 : Nat} {s2 : Nat} {σ : ab_St} {Q : Option Value → ab_St → Prop} : Ev d 124 56 [some (.ref x), l1] [.int s0, .ref s1, .ref s2] σ Q = Ev d 124 57 [some (.ref x), l1] [.ref x, .int s0, .ref s1, .ref s2] σ Q := ev_A1 d124_56 rfl
theorem d124_57 : decode (ab_C 124) 57 = .ok (.getfield 144, 3) := by decide +kernel
theorem e124_57 {d : Nat} {l0 l1 : Option Value} {s0 : Nat} {s1 : Int32} {s2 : Nat} {s3 : Nat} {σ : ab_St} {Q : Option Value → ab_St → Prop} : Ev d 124 57 [l0, l1] [.ref s0, .int s1, .ref s2, .ref s3] σ Q = (ab_k s0 = 10 ∧ Ev d 124 60 [l0, l1] [.int (σ.1 s0 25), .int s1, .ref s2, .ref s3] σ Q) := ev_Hc (c := ab_k s0 = 10) d124_57 rfl rfl rfl rfl rfl rfl rfl rfl
theorem d124_60 : decode (ab_C 124) 60 = .ok (.imul, 1) := by decide +kernel
theorem e124_60 {d : Nat} {l0 l1 : Option Value} {s0 : Int32} {s1 : Int32} {s2 : Nat} {s3 : Nat} {σ : ab_St} {Q : Option Value → ab_St → Prop} : Ev d 124 60 [l0, l1] [.int s0, .int s1, .ref s2, .ref s3] σ Q = Ev d 124 61 [l0, l1] [.int (s1 * s0), .ref s2, .ref s3] σ Q := ev_A2 d124_60 rfl rfl
theorem d124_61 : decode (ab_C 124) 61 = .ok (.invokevirtual 178, 3) := by decide +kernel
theorem e124_61 {d : Nat} {l0 l1 : Option Value} {s0 : Int32} {s1 : Nat} {s2 : Nat} {σ : ab_St} {Q : Option Value → ab_St → Prop} : Ev (d + 1) 124 61 [l0, l1] [.int s0, .ref s1, .ref s2] σ Q = (ab_k s2 = 10 ∧ Ev d 125 0 [some (.ref s2), some (.ref s1), some (.int s0), none] [] σ (fun r σ2 => Ev (d + 1) 124 64 [l0, l1] (r.toList ++ []) σ2 Q)) := ev_KV (b := s2) (ls := [l0, l1]) (st := [.int s0, .ref s1, .ref s2]) (as := [.ref s1, .int s0]) (rest := []) d124_61 rfl rfl rfl (Nat.le_of_ble_eq_true rfl) (Nat.le_of_ble_eq_true rfl) (Nat.le_of_ble_eq_true rfl) rfl rfl rfl rfl rfl rfl rfl
theorem d124_64 : decode (ab_C 124) 64 = .ok (.aload_n 0, 1) := by decide +kernel
theorem e124_64 {d : Nat} {l1 : Option Value} {x : Nat} {σ : ab_St} {Q : Option Value → ab_St → Prop} : Ev d 124 64 [some (.ref x), l1] [] σ Q = Ev d 124 65 [some (.ref x), l1] [.ref x] σ Q := ev_A1 d124_64 rfl
theorem d124_65 : decode (ab_C 124) 65 = .ok (.dup, 1) := by decide +kernel
theorem e124_65 {d : Nat} {l0 l1 : Option Value} {s0 : Nat} {σ : ab_St} {Q : Option Value → ab_St → Prop} : Ev d 124 65 [l0, l1] [.ref s0] σ Q = Ev d 124 66 [l0, l1] [.ref s0, .ref s0] σ Q := ev_A1 d124_65 rfl
theorem d124_66 : decode (ab_C 124) 66 = .ok (.getfield 144, 3) := by decide +kernel
theorem e124_66 {d : Nat} {l0 l1 : Option Value} {s0 : Nat} {s1 : Nat} {σ : ab_St} {Q : Option Value → ab_St → Prop} : Ev d 124 66 [l0, l1] [.ref s0, .ref s1] σ Q = (ab_k s0 = 10 ∧ Ev d 124 69 [l0, l1] [.int (σ.1 s0 25), .ref s1] σ Q) := ev_Hc (c := ab_k s0 = 10) d124_66 rfl rfl rfl rfl rfl rfl rfl rfl
theorem d124_69 : decode (ab_C 124) 69 = .ok (.iconst 1, 1) := by decide +kernel
theorem e124_69 {d : Nat} {l0 l1 : Option Value} {s0 : Int32} {s1 : Nat} {σ : ab_St} {Q : Option Value → ab_St → Prop} : Ev d 124 69 [l0, l1] [.int s0, .ref s1] σ Q = Ev d 124 70 [l0, l1] [.int 1, .int s0, .ref s1] σ Q := ev_A1 d124_69 rfl
theorem d124_70 : decode (ab_C 124) 70 = .ok (.iadd, 1) := by decide +kernel
theorem e124_70 {d : Nat} {l0 l1 : Option Value} {s0 : Int32} {s1 : Int32} {s2 : Nat} {σ : ab_St} {Q : Option Value → ab_St → Prop} : Ev d 124 70 [l0, l1] [.int s0, .int s1, .ref s2] σ Q = Ev d 124 71 [l0, l1] [.int (s1 + s0), .ref s2] σ Q := ev_A2 d124_70 rfl rfl
theorem d124_71 : decode (ab_C 124) 71 = .ok (.putfield 144, 3) := by decide +kernel
theorem e124_71 {d : Nat} {l0 l1 : Option Value} {s0 : Int32} {s1 : Nat} {σ : ab_St} {Q : Option Value → ab_St → Prop} : Ev d 124 71 [l0, l1] [.int s0, .ref s1] σ Q = (ab_k s1 = 10 ∧ Ev d 124 74 [l0, l1] [] (ab_wI σ s1 (upd (σ.1 s1) 25 s0)) Q) := ev_Hc (c := ab_k s1 = 10) d124_71 rfl rfl rfl rfl rfl rfl rfl rfl
theorem d124_74 : decode (ab_C 124) 74 = .ok (.return_, 1) := by decide +kernel
theorem e124_74 {d : Nat} {l0 l1 : Option Value} {σ : ab_St} {Q : Option Value → ab_St → Prop} : Ev d 124 74 [l0, l1] [] σ Q = Q none σ := ev_E d124_74 rfl rfl rfl rfl rfl rfl rfl
