/-! SaidLeastModel.layPage([II)V -/
theorem d125_0 : decode (ab_C 125) 0 = .ok (.iconst 0, 1) := by decide +kernel
theorem e125_0 {d : Nat} {l0 l1 l2 l3 : Option Value} {σ : ab_St} {Q : Option Value → ab_St → Prop} : Ev d 125 0 [l0, l1, l2, l3] [] σ Q = Ev d 125 1 [l0, l1, l2, l3] [.int 0] σ Q := ev_A1 d125_0 rfl
theorem d125_1 : decode (ab_C 125) 1 = .ok (.istore_n 3, 1) := by decide +kernel
theorem e125_1 {d : Nat} {l0 l1 l2 l3 : Option Value} {s0 : Int32} {σ : ab_St} {Q : Option Value → ab_St → Prop} : Ev d 125 1 [l0, l1, l2, l3] [.int s0] σ Q = Ev d 125 2 [l0, l1, l2, some (.int s0)] [] σ Q := ev_S d125_1 rfl rfl rfl rfl
theorem d125_2 : decode (ab_C 125) 2 = .ok (.iload_n 3, 1) := by decide +kernel
theorem e125_2 {d : Nat} {l0 l1 l2 : Option Value} {x : Int32} {σ : ab_St} {Q : Option Value → ab_St → Prop} : Ev d 125 2 [l0, l1, l2, some (.int x)] [] σ Q = Ev d 125 3 [l0, l1, l2, some (.int x)] [.int x] σ Q := ev_A1 d125_2 rfl
theorem d125_3 : decode (ab_C 125) 3 = .ok (.bipush 6, 2) := by decide +kernel
theorem e125_3 {d : Nat} {l0 l1 l2 l3 : Option Value} {s0 : Int32} {σ : ab_St} {Q : Option Value → ab_St → Prop} : Ev d 125 3 [l0, l1, l2, l3] [.int s0] σ Q = Ev d 125 5 [l0, l1, l2, l3] [.int 6, .int s0] σ Q := ev_A1 d125_3 rfl
theorem d125_5 : decode (ab_C 125) 5 = .ok (.if_icmp .ge 20, 3) := by decide +kernel
theorem e125_5 {d : Nat} {l0 l1 l2 l3 : Option Value} {s0 : Int32} {s1 : Int32} {σ : ab_St} {Q : Option Value → ab_St → Prop} : Ev d 125 5 [l0, l1, l2, l3] [.int s0, .int s1] σ Q = if s0 ≤ s1 then Ev d 125 25 [l0, l1, l2, l3] [] σ Q else Ev d 125 8 [l0, l1, l2, l3] [] σ Q := ev_B (c := s0 ≤ s1) d125_5 rfl rfl rfl rfl rfl
theorem d125_8 : decode (ab_C 125) 8 = .ok (.aload_n 1, 1) := by decide +kernel
theorem e125_8 {d : Nat} {l0 l2 l3 : Option Value} {x : Nat} {σ : ab_St} {Q : Option Value → ab_St → Prop} : Ev d 125 8 [l0, some (.ref x), l2, l3] [] σ Q = Ev d 125 9 [l0, some (.ref x), l2, l3] [.ref x] σ Q := ev_A1 d125_8 rfl
theorem d125_9 : decode (ab_C 125) 9 = .ok (.iload_n 2, 1) := by decide +kernel
theorem e125_9 {d : Nat} {l0 l1 l3 : Option Value} {x : Int32} {s0 : Nat} {σ : ab_St} {Q : Option Value → ab_St → Prop} : Ev d 125 9 [l0, l1, some (.int x), l3] [.ref s0] σ Q = Ev d 125 10 [l0, l1, some (.int x), l3] [.int x, .ref s0] σ Q := ev_A1 d125_9 rfl
theorem d125_10 : decode (ab_C 125) 10 = .ok (.iload_n 3, 1) := by decide +kernel
theorem e125_10 {d : Nat} {l0 l1 l2 : Option Value} {x : Int32} {s0 : Int32} {s1 : Nat} {σ : ab_St} {Q : Option Value → ab_St → Prop} : Ev d 125 10 [l0, l1, l2, some (.int x)] [.int s0, .ref s1] σ Q = Ev d 125 11 [l0, l1, l2, some (.int x)] [.int x, .int s0, .ref s1] σ Q := ev_A1 d125_10 rfl
theorem d125_11 : decode (ab_C 125) 11 = .ok (.iadd, 1) := by decide +kernel
theorem e125_11 {d : Nat} {l0 l1 l2 l3 : Option Value} {s0 : Int32} {s1 : Int32} {s2 : Nat} {σ : ab_St} {Q : Option Value → ab_St → Prop} : Ev d 125 11 [l0, l1, l2, l3] [.int s0, .int s1, .ref s2] σ Q = Ev d 125 12 [l0, l1, l2, l3] [.int (s1 + s0), .ref s2] σ Q := ev_A2 d125_11 rfl rfl
theorem d125_12 : decode (ab_C 125) 12 = .ok (.aload_n 0, 1) := by decide +kernel
theorem e125_12 {d : Nat} {l1 l2 l3 : Option Value} {x : Nat} {s0 : Int32} {s1 : Nat} {σ : ab_St} {Q : Option Value → ab_St → Prop} : Ev d 125 12 [some (.ref x), l1, l2, l3] [.int s0, .ref s1] σ Q = Ev d 125 13 [some (.ref x), l1, l2, l3] [.ref x, .int s0, .ref s1] σ Q := ev_A1 d125_12 rfl
theorem d125_13 : decode (ab_C 125) 13 = .ok (.getfield 13, 3) := by decide +kernel
theorem e125_13 {d : Nat} {l0 l1 l2 l3 : Option Value} {s0 : Nat} {s1 : Int32} {s2 : Nat} {σ : ab_St} {Q : Option Value → ab_St → Prop} : Ev d 125 13 [l0, l1, l2, l3] [.ref s0, .int s1, .ref s2] σ Q = (ab_k s0 = 10 ∧ Ev d 125 16 [l0, l1, l2, l3] [.ref (ab_r s0 6), .int s1, .ref s2] σ Q) := ev_Hc (c := ab_k s0 = 10) d125_13 rfl rfl rfl rfl rfl rfl rfl rfl
theorem d125_16 : decode (ab_C 125) 16 = .ok (.iload_n 3, 1) := by decide +kernel
theorem e125_16 {d : Nat} {l0 l1 l2 : Option Value} {x : Int32} {s0 : Nat} {s1 : Int32} {s2 : Nat} {σ : ab_St} {Q : Option Value → ab_St → Prop} : Ev d 125 16 [l0, l1, l2, some (.int x)] [.ref s0, .int s1, .ref s2] σ Q = Ev d 125 17 [l0, l1, l2, some (.int x)] [.int x, .ref s0, .int s1, .ref s2] σ Q := ev_A1 d125_16 rfl
theorem d125_17 : decode (ab_C 125) 17 = .ok (.iaload, 1) := by decide +kernel
theorem e125_17 {d : Nat} {l0 l1 l2 l3 : Option Value} {s0 : Int32} {s1 : Nat} {s2 : Int32} {s3 : Nat} {σ : ab_St} {Q : Option Value → ab_St → Prop} : Ev d 125 17 [l0, l1, l2, l3] [.int s0, .ref s1, .int s2, .ref s3] σ Q = ((ab_k s1 = 100 ∧ ab_in s0 (ab_n s1)) ∧ Ev d 125 18 [l0, l1, l2, l3] [.int (σ.1 s1 s0.toNatClampNeg), .int s2, .ref s3] σ Q) := ev_Hc (c := ab_k s1 = 100 ∧ ab_in s0 (ab_n s1)) d125_17 rfl rfl rfl rfl rfl rfl rfl rfl
theorem d125_18 : decode (ab_C 125) 18 = .ok (.iastore, 1) := by decide +kernel
theorem e125_18 {d : Nat} {l0 l1 l2 l3 : Option Value} {s0 : Int32} {s1 : Int32} {s2 : Nat} {σ : ab_St} {Q : Option Value → ab_St → Prop} : Ev d 125 18 [l0, l1, l2, l3] [.int s0, .int s1, .ref s2] σ Q = ((ab_k s2 = 100 ∧ ab_in s1 (ab_n s2)) ∧ Ev d 125 19 [l0, l1, l2, l3] [] (ab_wI σ s2 (upd (σ.1 s2) s1.toNatClampNeg s0)) Q) := ev_Hc (c := ab_k s2 = 100 ∧ ab_in s1 (ab_n s2)) d125_18 rfl rfl rfl rfl rfl rfl rfl rfl
theorem d125_19 : decode (ab_C 125) 19 = .ok (.iinc 3 1, 3) := by decide +kernel
theorem e125_19 {d : Nat} {l0 l1 l2 : Option Value} {x : Int32} {σ : ab_St} {Q : Option Value → ab_St → Prop} : Ev d 125 19 [l0, l1, l2, some (.int x)] [] σ Q = Ev d 125 22 [l0, l1, l2, some (.int (x + 1))] [] σ Q := ev_S d125_19 rfl rfl rfl rfl
theorem d125_22 : decode (ab_C 125) 22 = .ok (.goto (-20), 3) := by decide +kernel
theorem e125_22 {d : Nat} {l0 l1 l2 l3 : Option Value} {σ : ab_St} {Q : Option Value → ab_St → Prop} : Ev d 125 22 [l0, l1, l2, l3] [] σ Q = Ev d 125 2 [l0, l1, l2, l3] [] σ Q := ev_J d125_22 rfl rfl rfl rfl rfl
theorem d125_25 : decode (ab_C 125) 25 = .ok (.aload_n 1, 1) := by decide +kernel
theorem e125_25 {d : Nat} {l0 l2 l3 : Option Value} {x : Nat} {σ : ab_St} {Q : Option Value → ab_St → Prop} : Ev d 125 25 [l0, some (.ref x), l2, l3] [] σ Q = Ev d 125 26 [l0, some (.ref x), l2, l3] [.ref x] σ Q := ev_A1 d125_25 rfl
theorem d125_26 : decode (ab_C 125) 26 = .ok (.iload_n 2, 1) := by decide +kernel
theorem e125_26 {d : Nat} {l0 l1 l3 : Option Value} {x : Int32} {s0 : Nat} {σ : ab_St} {Q : Option Value → ab_St → Prop} : Ev d 125 26 [l0, l1, some (.int x), l3] [.ref s0] σ Q = Ev d 125 27 [l0, l1, some (.int x), l3] [.int x, .ref s0] σ Q := ev_A1 d125_26 rfl
theorem d125_27 : decode (ab_C 125) 27 = .ok (.bipush 6, 2) := by decide +kernel
theorem e125_27 {d : Nat} {l0 l1 l2 l3 : Option Value} {s0 : Int32} {s1 : Nat} {σ : ab_St} {Q : Option Value → ab_St → Prop} : Ev d 125 27 [l0, l1, l2, l3] [.int s0, .ref s1] σ Q = Ev d 125 29 [l0, l1, l2, l3] [.int 6, .int s0, .ref s1] σ Q := ev_A1 d125_27 rfl
theorem d125_29 : decode (ab_C 125) 29 = .ok (.iadd, 1) := by decide +kernel
theorem e125_29 {d : Nat} {l0 l1 l2 l3 : Option Value} {s0 : Int32} {s1 : Int32} {s2 : Nat} {σ : ab_St} {Q : Option Value → ab_St → Prop} : Ev d 125 29 [l0, l1, l2, l3] [.int s0, .int s1, .ref s2] σ Q = Ev d 125 30 [l0, l1, l2, l3] [.int (s1 + s0), .ref s2] σ Q := ev_A2 d125_29 rfl rfl
theorem d125_30 : decode (ab_C 125) 30 = .ok (.aload_n 0, 1) := by decide +kernel
theorem e125_30 {d : Nat} {l1 l2 l3 : Option Value} {x : Nat} {s0 : Int32} {s1 : Nat} {σ : ab_St} {Q : Option Value → ab_St → Prop} : Ev d 125 30 [some (.ref x), l1, l2, l3] [.int s0, .ref s1] σ Q = Ev d 125 31 [some (.ref x), l1, l2, l3] [.ref x, .int s0, .ref s1] σ Q := ev_A1 d125_30 rfl
theorem d125_31 : decode (ab_C 125) 31 = .ok (.getfield 138, 3) := by decide +kernel
theorem e125_31 {d : Nat} {l0 l1 l2 l3 : Option Value} {s0 : Nat} {s1 : Int32} {s2 : Nat} {σ : ab_St} {Q : Option Value → ab_St → Prop} : Ev d 125 31 [l0, l1, l2, l3] [.ref s0, .int s1, .ref s2] σ Q = (ab_k s0 = 10 ∧ Ev d 125 34 [l0, l1, l2, l3] [.int (σ.1 s0 7), .int s1, .ref s2] σ Q) := ev_Hc (c := ab_k s0 = 10) d125_31 rfl rfl rfl rfl rfl rfl rfl rfl
theorem d125_34 : decode (ab_C 125) 34 = .ok (.iastore, 1) := by decide +kernel
theorem e125_34 {d : Nat} {l0 l1 l2 l3 : Option Value} {s0 : Int32} {s1 : Int32} {s2 : Nat} {σ : ab_St} {Q : Option Value → ab_St → Prop} : Ev d 125 34 [l0, l1, l2, l3] [.int s0, .int s1, .ref s2] σ Q = ((ab_k s2 = 100 ∧ ab_in s1 (ab_n s2)) ∧ Ev d 125 35 [l0, l1, l2, l3] [] (ab_wI σ s2 (upd (σ.1 s2) s1.toNatClampNeg s0)) Q) := ev_Hc (c := ab_k s2 = 100 ∧ ab_in s1 (ab_n s2)) d125_34 rfl rfl rfl rfl rfl rfl rfl rfl
theorem d125_35 : decode (ab_C 125) 35 = .ok (.aload_n 1, 1) := by decide +kernel
theorem e125_35 {d : Nat} {l0 l2 l3 : Option Value} {x : Nat} {σ : ab_St} {Q : Option Value → ab_St → Prop} : Ev d 125 35 [l0, some (.ref x), l2, l3] [] σ Q = Ev d 125 36 [l0, some (.ref x), l2, l3] [.ref x] σ Q := ev_A1 d125_35 rfl
theorem d125_36 : decode (ab_C 125) 36 = .ok (.iload_n 2, 1) := by decide +kernel
theorem e125_36 {d : Nat} {l0 l1 l3 : Option Value} {x : Int32} {s0 : Nat} {σ : ab_St} {Q : Option Value → ab_St → Prop} : Ev d 125 36 [l0, l1, some (.int x), l3] [.ref s0] σ Q = Ev d 125 37 [l0, l1, some (.int x), l3] [.int x, .ref s0] σ Q := ev_A1 d125_36 rfl
theorem d125_37 : decode (ab_C 125) 37 = .ok (.bipush 7, 2) := by decide +kernel
theorem e125_37 {d : Nat} {l0 l1 l2 l3 : Option Value} {s0 : Int32} {s1 : Nat} {σ : ab_St} {Q : Option Value → ab_St → Prop} : Ev d 125 37 [l0, l1, l2, l3] [.int s0, .ref s1] σ Q = Ev d 125 39 [l0, l1, l2, l3] [.int 7, .int s0, .ref s1] σ Q := ev_A1 d125_37 rfl
theorem d125_39 : decode (ab_C 125) 39 = .ok (.iadd, 1) := by decide +kernel
theorem e125_39 {d : Nat} {l0 l1 l2 l3 : Option Value} {s0 : Int32} {s1 : Int32} {s2 : Nat} {σ : ab_St} {Q : Option Value → ab_St → Prop} : Ev d 125 39 [l0, l1, l2, l3] [.int s0, .int s1, .ref s2] σ Q = Ev d 125 40 [l0, l1, l2, l3] [.int (s1 + s0), .ref s2] σ Q := ev_A2 d125_39 rfl rfl
theorem d125_40 : decode (ab_C 125) 40 = .ok (.aload_n 0, 1) := by decide +kernel
theorem e125_40 {d : Nat} {l1 l2 l3 : Option Value} {x : Nat} {s0 : Int32} {s1 : Nat} {σ : ab_St} {Q : Option Value → ab_St → Prop} : Ev d 125 40 [some (.ref x), l1, l2, l3] [.int s0, .ref s1] σ Q = Ev d 125 41 [some (.ref x), l1, l2, l3] [.ref x, .int s0, .ref s1] σ Q := ev_A1 d125_40 rfl
theorem d125_41 : decode (ab_C 125) 41 = .ok (.getfield 141, 3) := by decide +kernel
theorem e125_41 {d : Nat} {l0 l1 l2 l3 : Option Value} {s0 : Nat} {s1 : Int32} {s2 : Nat} {σ : ab_St} {Q : Option Value → ab_St → Prop} : Ev d 125 41 [l0, l1, l2, l3] [.ref s0, .int s1, .ref s2] σ Q = (ab_k s0 = 10 ∧ Ev d 125 44 [l0, l1, l2, l3] [.int (σ.1 s0 13), .int s1, .ref s2] σ Q) := ev_Hc (c := ab_k s0 = 10) d125_41 rfl rfl rfl rfl rfl rfl rfl rfl
theorem d125_44 : decode (ab_C 125) 44 = .ok (.iastore, 1) := by decide +kernel
theorem e125_44 {d : Nat} {l0 l1 l2 l3 : Option Value} {s0 : Int32} {s1 : Int32} {s2 : Nat} {σ : ab_St} {Q : Option Value → ab_St → Prop} : Ev d 125 44 [l0, l1, l2, l3] [.int s0, .int s1, .ref s2] σ Q = ((ab_k s2 = 100 ∧ ab_in s1 (ab_n s2)) ∧ Ev d 125 45 [l0, l1, l2, l3] [] (ab_wI σ s2 (upd (σ.1 s2) s1.toNatClampNeg s0)) Q) := ev_Hc (c := ab_k s2 = 100 ∧ ab_in s1 (ab_n s2)) d125_44 rfl rfl rfl rfl rfl rfl rfl rfl
theorem d125_45 : decode (ab_C 125) 45 = .ok (.aload_n 1, 1) := by decide +kernel
theorem e125_45 {d : Nat} {l0 l2 l3 : Option Value} {x : Nat} {σ : ab_St} {Q : Option Value → ab_St → Prop} : Ev d 125 45 [l0, some (.ref x), l2, l3] [] σ Q = Ev d 125 46 [l0, some (.ref x), l2, l3] [.ref x] σ Q := ev_A1 d125_45 rfl
theorem d125_46 : decode (ab_C 125) 46 = .ok (.iload_n 2, 1) := by decide +kernel
theorem e125_46 {d : Nat} {l0 l1 l3 : Option Value} {x : Int32} {s0 : Nat} {σ : ab_St} {Q : Option Value → ab_St → Prop} : Ev d 125 46 [l0, l1, some (.int x), l3] [.ref s0] σ Q = Ev d 125 47 [l0, l1, some (.int x), l3] [.int x, .ref s0] σ Q := ev_A1 d125_46 rfl
theorem d125_47 : decode (ab_C 125) 47 = .ok (.bipush 8, 2) := by decide +kernel
theorem e125_47 {d : Nat} {l0 l1 l2 l3 : Option Value} {s0 : Int32} {s1 : Nat} {σ : ab_St} {Q : Option Value → ab_St → Prop} : Ev d 125 47 [l0, l1, l2, l3] [.int s0, .ref s1] σ Q = Ev d 125 49 [l0, l1, l2, l3] [.int 8, .int s0, .ref s1] σ Q := ev_A1 d125_47 rfl
theorem d125_49 : decode (ab_C 125) 49 = .ok (.iadd, 1) := by decide +kernel
theorem e125_49 {d : Nat} {l0 l1 l2 l3 : Option Value} {s0 : Int32} {s1 : Int32} {s2 : Nat} {σ : ab_St} {Q : Option Value → ab_St → Prop} : Ev d 125 49 [l0, l1, l2, l3] [.int s0, .int s1, .ref s2] σ Q = Ev d 125 50 [l0, l1, l2, l3] [.int (s1 + s0), .ref s2] σ Q := ev_A2 d125_49 rfl rfl
theorem d125_50 : decode (ab_C 125) 50 = .ok (.aload_n 0, 1) := by decide +kernel
theorem e125_50 {d : Nat} {l1 l2 l3 : Option Value} {x : Nat} {s0 : Int32} {s1 : Nat} {σ : ab_St} {Q : Option Value → ab_St → Prop} : Ev d 125 50 [some (.ref x), l1, l2, l3] [.int s0, .ref s1] σ Q = Ev d 125 51 [some (.ref x), l1, l2, l3] [.ref x, .int s0, .ref s1] σ Q := ev_A1 d125_50 rfl
theorem d125_51 : decode (ab_C 125) 51 = .ok (.getfield 28, 3) := by decide +kernel
theorem e125_51 {d : Nat} {l0 l1 l2 l3 : Option Value} {s0 : Nat} {s1 : Int32} {s2 : Nat} {σ : ab_St} {Q : Option Value → ab_St → Prop} : Ev d 125 51 [l0, l1, l2, l3] [.ref s0, .int s1, .ref s2] σ Q = (ab_k s0 = 10 ∧ Ev d 125 54 [l0, l1, l2, l3] [.int (σ.1 s0 14), .int s1, .ref s2] σ Q) := ev_Hc (c := ab_k s0 = 10) d125_51 rfl rfl rfl rfl rfl rfl rfl rfl
theorem d125_54 : decode (ab_C 125) 54 = .ok (.iastore, 1) := by decide +kernel
theorem e125_54 {d : Nat} {l0 l1 l2 l3 : Option Value} {s0 : Int32} {s1 : Int32} {s2 : Nat} {σ : ab_St} {Q : Option Value → ab_St → Prop} : Ev d 125 54 [l0, l1, l2, l3] [.int s0, .int s1, .ref s2] σ Q = ((ab_k s2 = 100 ∧ ab_in s1 (ab_n s2)) ∧ Ev d 125 55 [l0, l1, l2, l3] [] (ab_wI σ s2 (upd (σ.1 s2) s1.toNatClampNeg s0)) Q) := ev_Hc (c := ab_k s2 = 100 ∧ ab_in s1 (ab_n s2)) d125_54 rfl rfl rfl rfl rfl rfl rfl rfl
theorem d125_55 : decode (ab_C 125) 55 = .ok (.return_, 1) := by decide +kernel
theorem e125_55 {d : Nat} {l0 l1 l2 l3 : Option Value} {σ : ab_St} {Q : Option Value → ab_St → Prop} : Ev d 125 55 [l0, l1, l2, l3] [] σ Q = Q none σ := ev_E d125_55 rfl rfl rfl rfl rfl rfl rfl
/-! SaidLeastModel.talk(II)I -/
theorem d126_0 : decode (ab_C 126) 0 = .ok (.aload_n 0, 1) := by decide +kernel
theorem e126_0 {d : Nat} {l1 l2 : Option Value} {x : Nat} {σ : ab_St} {Q : Option Value → ab_St → Prop} : Ev d 126 0 [some (.ref x), l1, l2] [] σ Q = Ev d 126 1 [some (.ref x), l1, l2] [.ref x] σ Q := ev_A1 d126_0 rfl
theorem d126_1 : decode (ab_C 126) 1 = .ok (.iconst 0, 1) := by decide +kernel
theorem e126_1 {d : Nat} {l0 l1 l2 : Option Value} {s0 : Nat} {σ : ab_St} {Q : Option Value → ab_St → Prop} : Ev d 126 1 [l0, l1, l2] [.ref s0] σ Q = Ev d 126 2 [l0, l1, l2] [.int 0, .ref s0] σ Q := ev_A1 d126_1 rfl
theorem d126_2 : decode (ab_C 126) 2 = .ok (.putfield 79, 3) := by decide +kernel
theorem e126_2 {d : Nat} {l0 l1 l2 : Option Value} {s0 : Int32} {s1 : Nat} {σ : ab_St} {Q : Option Value → ab_St → Prop} : Ev d 126 2 [l0, l1, l2] [.int s0, .ref s1] σ Q = (ab_k s1 = 10 ∧ Ev d 126 5 [l0, l1, l2] [] (ab_wI σ s1 (upd (σ.1 s1) 0 s0)) Q) := ev_Hc (c := ab_k s1 = 10) d126_2 rfl rfl rfl rfl rfl rfl rfl rfl
theorem d126_5 : decode (ab_C 126) 5 = .ok (.aload_n 0, 1) := by decide +kernel
theorem e126_5 {d : Nat} {l1 l2 : Option Value} {x : Nat} {σ : ab_St} {Q : Option Value → ab_St → Prop} : Ev d 126 5 [some (.ref x), l1, l2] [] σ Q = Ev d 126 6 [some (.ref x), l1, l2] [.ref x] σ Q := ev_A1 d126_5 rfl
theorem d126_6 : decode (ab_C 126) 6 = .ok (.iload_n 1, 1) := by decide +kernel
theorem e126_6 {d : Nat} {l0 l2 : Option Value} {x : Int32} {s0 : Nat} {σ : ab_St} {Q : Option Value → ab_St → Prop} : Ev d 126 6 [l0, some (.int x), l2] [.ref s0] σ Q = Ev d 126 7 [l0, some (.int x), l2] [.int x, .ref s0] σ Q := ev_A1 d126_6 rfl
theorem d126_7 : decode (ab_C 126) 7 = .ok (.invokevirtual 167, 3) := by decide +kernel
theorem e126_7 {d : Nat} {l0 l1 l2 : Option Value} {s0 : Int32} {s1 : Nat} {σ : ab_St} {Q : Option Value → ab_St → Prop} : Ev (d + 1) 126 7 [l0, l1, l2] [.int s0, .ref s1] σ Q = (ab_k s1 = 10 ∧ Ev d 117 0 [some (.ref s1), some (.int s0)] [] σ (fun r σ2 => Ev (d + 1) 126 10 [l0, l1, l2] (r.toList ++ []) σ2 Q)) := ev_KV (b := s1) (ls := [l0, l1, l2]) (st := [.int s0, .ref s1]) (as := [.int s0]) (rest := []) d126_7 rfl rfl rfl (Nat.le_of_ble_eq_true rfl) (Nat.le_of_ble_eq_true rfl) (Nat.le_of_ble_eq_true rfl) rfl rfl rfl rfl rfl rfl rfl
theorem d126_10 : decode (ab_C 126) 10 = .ok (.ifCond .eq 5, 3) := by decide +kernel
theorem e126_10 {d : Nat} {l0 l1 l2 : Option Value} {s0 : Int32} {σ : ab_St} {Q : Option Value → ab_St → Prop} : Ev d 126 10 [l0, l1, l2] [.int s0] σ Q = if s0 = 0 then Ev d 126 15 [l0, l1, l2] [] σ Q else Ev d 126 13 [l0, l1, l2] [] σ Q := ev_B (c := s0 = 0) d126_10 rfl rfl rfl rfl rfl
theorem d126_13 : decode (ab_C 126) 13 = .ok (.iconst (-1), 1) := by decide +kernel
theorem e126_13 {d : Nat} {l0 l1 l2 : Option Value} {σ : ab_St} {Q : Option Value → ab_St → Prop} : Ev d 126 13 [l0, l1, l2] [] σ Q = Ev d 126 14 [l0, l1, l2] [.int (-1)] σ Q := ev_A1 d126_13 rfl
theorem d126_14 : decode (ab_C 126) 14 = .ok (.ireturn, 1) := by decide +kernel
theorem e126_14 {d : Nat} {l0 l1 l2 : Option Value} {s0 : Int32} {σ : ab_St} {Q : Option Value → ab_St → Prop} : Ev d 126 14 [l0, l1, l2] [.int s0] σ Q = Q (some (.int s0)) σ := ev_E d126_14 rfl rfl rfl rfl rfl rfl rfl
theorem d126_15 : decode (ab_C 126) 15 = .ok (.iload_n 2, 1) := by decide +kernel
theorem e126_15 {d : Nat} {l0 l1 : Option Value} {x : Int32} {σ : ab_St} {Q : Option Value → ab_St → Prop} : Ev d 126 15 [l0, l1, some (.int x)] [] σ Q = Ev d 126 16 [l0, l1, some (.int x)] [.int x] σ Q := ev_A1 d126_15 rfl
theorem d126_16 : decode (ab_C 126) 16 = .ok (.i2l, 1) := by decide +kernel
theorem e126_16 {d : Nat} {l0 l1 l2 : Option Value} {s0 : Int32} {σ : ab_St} {Q : Option Value → ab_St → Prop} : Ev d 126 16 [l0, l1, l2] [.int s0] σ Q = Ev d 126 17 [l0, l1, l2] [.long s0.toInt64] σ Q := ev_A2 d126_16 rfl rfl
theorem d126_17 : decode (ab_C 126) 17 = .ok (.lconst 1, 1) := by decide +kernel
theorem e126_17 {d : Nat} {l0 l1 l2 : Option Value} {s0 : Int64} {σ : ab_St} {Q : Option Value → ab_St → Prop} : Ev d 126 17 [l0, l1, l2] [.long s0] σ Q = Ev d 126 18 [l0, l1, l2] [.long 1, .long s0] σ Q := ev_A1 d126_17 rfl
theorem d126_18 : decode (ab_C 126) 18 = .ok (.ldc2_w 185, 3) := by decide +kernel
theorem e126_18 {d : Nat} {l0 l1 l2 : Option Value} {s0 : Int64} {s1 : Int64} {σ : ab_St} {Q : Option Value → ab_St → Prop} : Ev d 126 18 [l0, l1, l2] [.long s0, .long s1] σ Q = Ev d 126 21 [l0, l1, l2] [.long 9, .long s0, .long s1] σ Q := ev_A1 d126_18 rfl
theorem d126_21 : decode (ab_C 126) 21 = .ok (.invokestatic 85, 3) := by decide +kernel
theorem e126_21 {d : Nat} {l0 l1 l2 : Option Value} {s0 : Int64} {s1 : Int64} {s2 : Int64} {σ : ab_St} {Q : Option Value → ab_St → Prop} : Ev (d + 1) 126 21 [l0, l1, l2] [.long s0, .long s1, .long s2] σ Q = Ev d 101 0 [some (.long s2), none, some (.long s1), none, some (.long s0), none] [] σ (fun r σ2 => Ev (d + 1) 126 24 [l0, l1, l2] (r.toList ++ []) σ2 Q) := ev_K0 (y := 101) (ls := [l0, l1, l2]) (st := [.long s0, .long s1, .long s2]) (as := [.long s2, .long s1, .long s0]) (rest := []) d126_21 rfl rfl rfl rfl rfl rfl rfl rfl
theorem d126_24 : decode (ab_C 126) 24 = .ok (.ifCond .ne 6, 3) := by decide +kernel
theorem e126_24 {d : Nat} {l0 l1 l2 : Option Value} {s0 : Int32} {σ : ab_St} {Q : Option Value → ab_St → Prop} : Ev d 126 24 [l0, l1, l2] [.int s0] σ Q = if s0 = 0 then Ev d 126 27 [l0, l1, l2] [] σ Q else Ev d 126 30 [l0, l1, l2] [] σ Q := ev_B (c := s0 = 0) d126_24 rfl rfl rfl rfl rfl
theorem d126_27 : decode (ab_C 126) 27 = .ok (.bipush (-2), 2) := by decide +kernel
theorem e126_27 {d : Nat} {l0 l1 l2 : Option Value} {σ : ab_St} {Q : Option Value → ab_St → Prop} : Ev d 126 27 [l0, l1, l2] [] σ Q = Ev d 126 29 [l0, l1, l2] [.int (-2)] σ Q := ev_A1 d126_27 rfl
theorem d126_29 : decode (ab_C 126) 29 = .ok (.ireturn, 1) := by decide +kernel
theorem e126_29 {d : Nat} {l0 l1 l2 : Option Value} {s0 : Int32} {σ : ab_St} {Q : Option Value → ab_St → Prop} : Ev d 126 29 [l0, l1, l2] [.int s0] σ Q = Q (some (.int s0)) σ := ev_E d126_29 rfl rfl rfl rfl rfl rfl rfl
theorem d126_30 : decode (ab_C 126) 30 = .ok (.aload_n 0, 1) := by decide +kernel
theorem e126_30 {d : Nat} {l1 l2 : Option Value} {x : Nat} {σ : ab_St} {Q : Option Value → ab_St → Prop} : Ev d 126 30 [some (.ref x), l1, l2] [] σ Q = Ev d 126 31 [some (.ref x), l1, l2] [.ref x] σ Q := ev_A1 d126_30 rfl
theorem d126_31 : decode (ab_C 126) 31 = .ok (.invokevirtual 158, 3) := by decide +kernel
theorem e126_31 {d : Nat} {l0 l1 l2 : Option Value} {s0 : Nat} {σ : ab_St} {Q : Option Value → ab_St → Prop} : Ev (d + 1) 126 31 [l0, l1, l2] [.ref s0] σ Q = (ab_k s0 = 10 ∧ Ev d 112 0 [some (.ref s0), none] [] σ (fun r σ2 => Ev (d + 1) 126 34 [l0, l1, l2] (r.toList ++ []) σ2 Q)) := ev_KV (b := s0) (ls := [l0, l1, l2]) (st := [.ref s0]) (as := []) (rest := []) d126_31 rfl rfl rfl (Nat.le_of_ble_eq_true rfl) (Nat.le_of_ble_eq_true rfl) (Nat.le_of_ble_eq_true rfl) rfl rfl rfl rfl rfl rfl rfl
theorem d126_34 : decode (ab_C 126) 34 = .ok (.aload_n 0, 1) := by decide +kernel
theorem e126_34 {d : Nat} {l1 l2 : Option Value} {x : Nat} {σ : ab_St} {Q : Option Value → ab_St → Prop} : Ev d 126 34 [some (.ref x), l1, l2] [] σ Q = Ev d 126 35 [some (.ref x), l1, l2] [.ref x] σ Q := ev_A1 d126_34 rfl
theorem d126_35 : decode (ab_C 126) 35 = .ok (.invokevirtual 161, 3) := by decide +kernel
theorem e126_35 {d : Nat} {l0 l1 l2 : Option Value} {s0 : Nat} {σ : ab_St} {Q : Option Value → ab_St → Prop} : Ev (d + 1) 126 35 [l0, l1, l2] [.ref s0] σ Q = (ab_k s0 = 10 ∧ Ev d 114 0 [some (.ref s0), none, none, none] [] σ (fun r σ2 => Ev (d + 1) 126 38 [l0, l1, l2] (r.toList ++ []) σ2 Q)) := ev_KV (b := s0) (ls := [l0, l1, l2]) (st := [.ref s0]) (as := []) (rest := []) d126_35 rfl rfl rfl (Nat.le_of_ble_eq_true rfl) (Nat.le_of_ble_eq_true rfl) (Nat.le_of_ble_eq_true rfl) rfl rfl rfl rfl rfl rfl rfl
theorem d126_38 : decode (ab_C 126) 38 = .ok (.iload_n 1, 1) := by decide +kernel
theorem e126_38 {d : Nat} {l0 l2 : Option Value} {x : Int32} {s0 : Int32} {σ : ab_St} {Q : Option Value → ab_St → Prop} : Ev d 126 38 [l0, some (.int x), l2] [.int s0] σ Q = Ev d 126 39 [l0, some (.int x), l2] [.int x, .int s0] σ Q := ev_A1 d126_38 rfl
theorem d126_39 : decode (ab_C 126) 39 = .ok (.invokestatic 154, 3) := by decide +kernel
theorem e126_39 {d : Nat} {l0 l1 l2 : Option Value} {s0 : Int32} {s1 : Int32} {σ : ab_St} {Q : Option Value → ab_St → Prop} : Ev (d + 1) 126 39 [l0, l1, l2] [.int s0, .int s1] σ Q = Ev d 113 0 [some (.int s1), some (.int s0)] [] σ (fun r σ2 => Ev (d + 1) 126 42 [l0, l1, l2] (r.toList ++ []) σ2 Q) := ev_K0 (y := 113) (ls := [l0, l1, l2]) (st := [.int s0, .int s1]) (as := [.int s1, .int s0]) (rest := []) d126_39 rfl rfl rfl rfl rfl rfl rfl rfl
theorem d126_42 : decode (ab_C 126) 42 = .ok (.ifCond .ne 6, 3) := by decide +kernel
theorem e126_42 {d : Nat} {l0 l1 l2 : Option Value} {s0 : Int32} {σ : ab_St} {Q : Option Value → ab_St → Prop} : Ev d 126 42 [l0, l1, l2] [.int s0] σ Q = if s0 = 0 then Ev d 126 45 [l0, l1, l2] [] σ Q else Ev d 126 48 [l0, l1, l2] [] σ Q := ev_B (c := s0 = 0) d126_42 rfl rfl rfl rfl rfl
theorem d126_45 : decode (ab_C 126) 45 = .ok (.bipush (-3), 2) := by decide +kernel
theorem e126_45 {d : Nat} {l0 l1 l2 : Option Value} {σ : ab_St} {Q : Option Value → ab_St → Prop} : Ev d 126 45 [l0, l1, l2] [] σ Q = Ev d 126 47 [l0, l1, l2] [.int (-3)] σ Q := ev_A1 d126_45 rfl
theorem d126_47 : decode (ab_C 126) 47 = .ok (.ireturn, 1) := by decide +kernel
theorem e126_47 {d : Nat} {l0 l1 l2 : Option Value} {s0 : Int32} {σ : ab_St} {Q : Option Value → ab_St → Prop} : Ev d 126 47 [l0, l1, l2] [.int s0] σ Q = Q (some (.int s0)) σ := ev_E d126_47 rfl rfl rfl rfl rfl rfl rfl
theorem d126_48 : decode (ab_C 126) 48 = .ok (.aload_n 0, 1) := by decide +kernel
theorem e126_48 {d : Nat} {l1 l2 : Option Value} {x : Nat} {σ : ab_St} {Q : Option Value → ab_St → Prop} : Ev d 126 48 [some (.ref x), l1, l2] [] σ Q = Ev d 126 49 [some (.ref x), l1, l2] [.ref x] σ Q := ev_A1 d126_48 rfl
theorem d126_49 : decode (ab_C 126) 49 = .ok (.invokevirtual 182, 3) := by decide +kernel
theorem e126_49 {d : Nat} {l0 l1 l2 : Option Value} {s0 : Nat} {σ : ab_St} {Q : Option Value → ab_St → Prop} : Ev (d + 1) 126 49 [l0, l1, l2] [.ref s0] σ Q = (ab_k s0 = 10 ∧ Ev d 124 0 [some (.ref s0), none] [] σ (fun r σ2 => Ev (d + 1) 126 52 [l0, l1, l2] (r.toList ++ []) σ2 Q)) := ev_KV (b := s0) (ls := [l0, l1, l2]) (st := [.ref s0]) (as := []) (rest := []) d126_49 rfl rfl rfl (Nat.le_of_ble_eq_true rfl) (Nat.le_of_ble_eq_true rfl) (Nat.le_of_ble_eq_true rfl) rfl rfl rfl rfl rfl rfl rfl
theorem d126_52 : decode (ab_C 126) 52 = .ok (.aload_n 0, 1) := by decide +kernel
theorem e126_52 {d : Nat} {l1 l2 : Option Value} {x : Nat} {σ : ab_St} {Q : Option Value → ab_St → Prop} : Ev d 126 52 [some (.ref x), l1, l2] [] σ Q = Ev d 126 53 [some (.ref x), l1, l2] [.ref x] σ Q := ev_A1 d126_52 rfl
theorem d126_53 : decode (ab_C 126) 53 = .ok (.getfield 13, 3) := by decide +kernel
theorem e126_53 {d : Nat} {l0 l1 l2 : Option Value} {s0 : Nat} {σ : ab_St} {Q : Option Value → ab_St → Prop} : Ev d 126 53 [l0, l1, l2] [.ref s0] σ Q = (ab_k s0 = 10 ∧ Ev d 126 56 [l0, l1, l2] [.ref (ab_r s0 6)] σ Q) := ev_Hc (c := ab_k s0 = 10) d126_53 rfl rfl rfl rfl rfl rfl rfl rfl
theorem d126_56 : decode (ab_C 126) 56 = .ok (.iload_n 1, 1) := by decide +kernel
theorem e126_56 {d : Nat} {l0 l2 : Option Value} {x : Int32} {s0 : Nat} {σ : ab_St} {Q : Option Value → ab_St → Prop} : Ev d 126 56 [l0, some (.int x), l2] [.ref s0] σ Q = Ev d 126 57 [l0, some (.int x), l2] [.int x, .ref s0] σ Q := ev_A1 d126_56 rfl
theorem d126_57 : decode (ab_C 126) 57 = .ok (.dup2, 1) := by decide +kernel
theorem e126_57 {d : Nat} {l0 l1 l2 : Option Value} {s0 : Int32} {s1 : Nat} {σ : ab_St} {Q : Option Value → ab_St → Prop} : Ev d 126 57 [l0, l1, l2] [.int s0, .ref s1] σ Q = Ev d 126 58 [l0, l1, l2] [.int s0, .ref s1, .int s0, .ref s1] σ Q := ev_A1 d126_57 rfl
theorem d126_58 : decode (ab_C 126) 58 = .ok (.iaload, 1) := by decide +kernel
theorem e126_58 {d : Nat} {l0 l1 l2 : Option Value} {s0 : Int32} {s1 : Nat} {s2 : Int32} {s3 : Nat} {σ : ab_St} {Q : Option Value → ab_St → Prop} : Ev d 126 58 [l0, l1, l2] [.int s0, .ref s1, .int s2, .ref s3] σ Q = ((ab_k s1 = 100 ∧ ab_in s0 (ab_n s1)) ∧ Ev d 126 59 [l0, l1, l2] [.int (σ.1 s1 s0.toNatClampNeg), .int s2, .ref s3] σ Q) := ev_Hc (c := ab_k s1 = 100 ∧ ab_in s0 (ab_n s1)) d126_58 rfl rfl rfl rfl rfl rfl rfl rfl
theorem d126_59 : decode (ab_C 126) 59 = .ok (.iload_n 2, 1) := by decide +kernel
theorem e126_59 {d : Nat} {l0 l1 : Option Value} {x : Int32} {s0 : Int32} {s1 : Int32} {s2 : Nat} {σ : ab_St} {Q : Option Value → ab_St → Prop} : Ev d 126 59 [l0, l1, some (.int x)] [.int s0, .int s1, .ref s2] σ Q = Ev d 126 60 [l0, l1, some (.int x)] [.int x, .int s0, .int s1, .ref s2] σ Q := ev_A1 d126_59 rfl
theorem d126_60 : decode (ab_C 126) 60 = .ok (.iadd, 1) := by decide +kernel
theorem e126_60 {d : Nat} {l0 l1 l2 : Option Value} {s0 : Int32} {s1 : Int32} {s2 : Int32} {s3 : Nat} {σ : ab_St} {Q : Option Value → ab_St → Prop} : Ev d 126 60 [l0, l1, l2] [.int s0, .int s1, .int s2, .ref s3] σ Q = Ev d 126 61 [l0, l1, l2] [.int (s1 + s0), .int s2, .ref s3] σ Q := ev_A2 d126_60 rfl rfl
theorem d126_61 : decode (ab_C 126) 61 = .ok (.iastore, 1) := by decide +kernel
theorem e126_61 {d : Nat} {l0 l1 l2 : Option Value} {s0 : Int32} {s1 : Int32} {s2 : Nat} {σ : ab_St} {Q : Option Value → ab_St → Prop} : Ev d 126 61 [l0, l1, l2] [.int s0, .int s1, .ref s2] σ Q = ((ab_k s2 = 100 ∧ ab_in s1 (ab_n s2)) ∧ Ev d 126 62 [l0, l1, l2] [] (ab_wI σ s2 (upd (σ.1 s2) s1.toNatClampNeg s0)) Q) := ev_Hc (c := ab_k s2 = 100 ∧ ab_in s1 (ab_n s2)) d126_61 rfl rfl rfl rfl rfl rfl rfl rfl
theorem d126_62 : decode (ab_C 126) 62 = .ok (.aload_n 0, 1) := by decide +kernel
theorem e126_62 {d : Nat} {l1 l2 : Option Value} {x : Nat} {σ : ab_St} {Q : Option Value → ab_St → Prop} : Ev d 126 62 [some (.ref x), l1, l2] [] σ Q = Ev d 126 63 [some (.ref x), l1, l2] [.ref x] σ Q := ev_A1 d126_62 rfl
theorem d126_63 : decode (ab_C 126) 63 = .ok (.bipush (-9), 2) := by decide +kernel
theorem e126_63 {d : Nat} {l0 l1 l2 : Option Value} {s0 : Nat} {σ : ab_St} {Q : Option Value → ab_St → Prop} : Ev d 126 63 [l0, l1, l2] [.ref s0] σ Q = Ev d 126 65 [l0, l1, l2] [.int (-9), .ref s0] σ Q := ev_A1 d126_63 rfl
theorem d126_65 : decode (ab_C 126) 65 = .ok (.putfield 28, 3) := by decide +kernel
theorem e126_65 {d : Nat} {l0 l1 l2 : Option Value} {s0 : Int32} {s1 : Nat} {σ : ab_St} {Q : Option Value → ab_St → Prop} : Ev d 126 65 [l0, l1, l2] [.int s0, .ref s1] σ Q = (ab_k s1 = 10 ∧ Ev d 126 68 [l0, l1, l2] [] (ab_wI σ s1 (upd (σ.1 s1) 14 s0)) Q) := ev_Hc (c := ab_k s1 = 10) d126_65 rfl rfl rfl rfl rfl rfl rfl rfl
theorem d126_68 : decode (ab_C 126) 68 = .ok (.aload_n 0, 1) := by decide +kernel
theorem e126_68 {d : Nat} {l1 l2 : Option Value} {x : Nat} {σ : ab_St} {Q : Option Value → ab_St → Prop} : Ev d 126 68 [some (.ref x), l1, l2] [] σ Q = Ev d 126 69 [some (.ref x), l1, l2] [.ref x] σ Q := ev_A1 d126_68 rfl
theorem d126_69 : decode (ab_C 126) 69 = .ok (.getfield 13, 3) := by decide +kernel
theorem e126_69 {d : Nat} {l0 l1 l2 : Option Value} {s0 : Nat} {σ : ab_St} {Q : Option Value → ab_St → Prop} : Ev d 126 69 [l0, l1, l2] [.ref s0] σ Q = (ab_k s0 = 10 ∧ Ev d 126 72 [l0, l1, l2] [.ref (ab_r s0 6)] σ Q) := ev_Hc (c := ab_k s0 = 10) d126_69 rfl rfl rfl rfl rfl rfl rfl rfl
theorem d126_72 : decode (ab_C 126) 72 = .ok (.iload_n 1, 1) := by decide +kernel
theorem e126_72 {d : Nat} {l0 l2 : Option Value} {x : Int32} {s0 : Nat} {σ : ab_St} {Q : Option Value → ab_St → Prop} : Ev d 126 72 [l0, some (.int x), l2] [.ref s0] σ Q = Ev d 126 73 [l0, some (.int x), l2] [.int x, .ref s0] σ Q := ev_A1 d126_72 rfl
theorem d126_73 : decode (ab_C 126) 73 = .ok (.iaload, 1) := by decide +kernel
theorem e126_73 {d : Nat} {l0 l1 l2 : Option Value} {s0 : Int32} {s1 : Nat} {σ : ab_St} {Q : Option Value → ab_St → Prop} : Ev d 126 73 [l0, l1, l2] [.int s0, .ref s1] σ Q = ((ab_k s1 = 100 ∧ ab_in s0 (ab_n s1)) ∧ Ev d 126 74 [l0, l1, l2] [.int (σ.1 s1 s0.toNatClampNeg)] σ Q) := ev_Hc (c := ab_k s1 = 100 ∧ ab_in s0 (ab_n s1)) d126_73 rfl rfl rfl rfl rfl rfl rfl rfl
theorem d126_74 : decode (ab_C 126) 74 = .ok (.ireturn, 1) := by decide +kernel
theorem e126_74 {d : Nat} {l0 l1 l2 : Option Value} {s0 : Int32} {σ : ab_St} {Q : Option Value → ab_St → Prop} : Ev d 126 74 [l0, l1, l2] [.int s0] σ Q = Q (some (.int s0)) σ := ev_E d126_74 rfl rfl rfl rfl rfl rfl rfl
/-! SaidLeastModel.come(I)I -/
theorem d127_0 : decode (ab_C 127) 0 = .ok (.aload_n 0, 1) := by decide +kernel
theorem e127_0 {d : Nat} {l1 l2 l3 l4 l5 : Option Value} {x : Nat} {σ : ab_St} {Q : Option Value → ab_St → Prop} : Ev d 127 0 [some (.ref x), l1, l2, l3, l4, l5] [] σ Q = Ev d 127 1 [some (.ref x), l1, l2, l3, l4, l5] [.ref x] σ Q := ev_A1 d127_0 rfl
theorem d127_1 : decode (ab_C 127) 1 = .ok (.iconst 0, 1) := by decide +kernel
theorem e127_1 {d : Nat} {l0 l1 l2 l3 l4 l5 : Option Value} {s0 : Nat} {σ : ab_St} {Q : Option Value → ab_St → Prop} : Ev d 127 1 [l0, l1, l2, l3, l4, l5] [.ref s0] σ Q = Ev d 127 2 [l0, l1, l2, l3, l4, l5] [.int 0, .ref s0] σ Q := ev_A1 d127_1 rfl
theorem d127_2 : decode (ab_C 127) 2 = .ok (.putfield 79, 3) := by decide +kernel
theorem e127_2 {d : Nat} {l0 l1 l2 l3 l4 l5 : Option Value} {s0 : Int32} {s1 : Nat} {σ : ab_St} {Q : Option Value → ab_St → Prop} : Ev d 127 2 [l0, l1, l2, l3, l4, l5] [.int s0, .ref s1] σ Q = (ab_k s1 = 10 ∧ Ev d 127 5 [l0, l1, l2, l3, l4, l5] [] (ab_wI σ s1 (upd (σ.1 s1) 0 s0)) Q) := ev_Hc (c := ab_k s1 = 10) d127_2 rfl rfl rfl rfl rfl rfl rfl rfl
theorem d127_5 : decode (ab_C 127) 5 = .ok (.aload_n 0, 1) := by decide +kernel
theorem e127_5 {d : Nat} {l1 l2 l3 l4 l5 : Option Value} {x : Nat} {σ : ab_St} {Q : Option Value → ab_St → Prop} : Ev d 127 5 [some (.ref x), l1, l2, l3, l4, l5] [] σ Q = Ev d 127 6 [some (.ref x), l1, l2, l3, l4, l5] [.ref x] σ Q := ev_A1 d127_5 rfl
theorem d127_6 : decode (ab_C 127) 6 = .ok (.iload_n 1, 1) := by decide +kernel
theorem e127_6 {d : Nat} {l0 l2 l3 l4 l5 : Option Value} {x : Int32} {s0 : Nat} {σ : ab_St} {Q : Option Value → ab_St → Prop} : Ev d 127 6 [l0, some (.int x), l2, l3, l4, l5] [.ref s0] σ Q = Ev d 127 7 [l0, some (.int x), l2, l3, l4, l5] [.int x, .ref s0] σ Q := ev_A1 d127_6 rfl
theorem d127_7 : decode (ab_C 127) 7 = .ok (.invokevirtual 167, 3) := by decide +kernel
theorem e127_7 {d : Nat} {l0 l1 l2 l3 l4 l5 : Option Value} {s0 : Int32} {s1 : Nat} {σ : ab_St} {Q : Option Value → ab_St → Prop} : Ev (d + 1) 127 7 [l0, l1, l2, l3, l4, l5] [.int s0, .ref s1] σ Q = (ab_k s1 = 10 ∧ Ev d 117 0 [some (.ref s1), some (.int s0)] [] σ (fun r σ2 => Ev (d + 1) 127 10 [l0, l1, l2, l3, l4, l5] (r.toList ++ []) σ2 Q)) := ev_KV (b := s1) (ls := [l0, l1, l2, l3, l4, l5]) (st := [.int s0, .ref s1]) (as := [.int s0]) (rest := []) d127_7 rfl rfl rfl (Nat.le_of_ble_eq_true rfl) (Nat.le_of_ble_eq_true rfl) (Nat.le_of_ble_eq_true rfl) rfl rfl rfl rfl rfl rfl rfl
theorem d127_10 : decode (ab_C 127) 10 = .ok (.ifCond .eq 5, 3) := by decide +kernel
theorem e127_10 {d : Nat} {l0 l1 l2 l3 l4 l5 : Option Value} {s0 : Int32} {σ : ab_St} {Q : Option Value → ab_St → Prop} : Ev d 127 10 [l0, l1, l2, l3, l4, l5] [.int s0] σ Q = if s0 = 0 then Ev d 127 15 [l0, l1, l2, l3, l4, l5] [] σ Q else Ev d 127 13 [l0, l1, l2, l3, l4, l5] [] σ Q := ev_B (c := s0 = 0) d127_10 rfl rfl rfl rfl rfl
theorem d127_13 : decode (ab_C 127) 13 = .ok (.iconst (-1), 1) := by decide +kernel
theorem e127_13 {d : Nat} {l0 l1 l2 l3 l4 l5 : Option Value} {σ : ab_St} {Q : Option Value → ab_St → Prop} : Ev d 127 13 [l0, l1, l2, l3, l4, l5] [] σ Q = Ev d 127 14 [l0, l1, l2, l3, l4, l5] [.int (-1)] σ Q := ev_A1 d127_13 rfl
theorem d127_14 : decode (ab_C 127) 14 = .ok (.ireturn, 1) := by decide +kernel
theorem e127_14 {d : Nat} {l0 l1 l2 l3 l4 l5 : Option Value} {s0 : Int32} {σ : ab_St} {Q : Option Value → ab_St → Prop} : Ev d 127 14 [l0, l1, l2, l3, l4, l5] [.int s0] σ Q = Q (some (.int s0)) σ := ev_E d127_14 rfl rfl rfl rfl rfl rfl rfl
theorem d127_15 : decode (ab_C 127) 15 = .ok (.aload_n 0, 1) := by decide +kernel
theorem e127_15 {d : Nat} {l1 l2 l3 l4 l5 : Option Value} {x : Nat} {σ : ab_St} {Q : Option Value → ab_St → Prop} : Ev d 127 15 [some (.ref x), l1, l2, l3, l4, l5] [] σ Q = Ev d 127 16 [some (.ref x), l1, l2, l3, l4, l5] [.ref x] σ Q := ev_A1 d127_15 rfl
theorem d127_16 : decode (ab_C 127) 16 = .ok (.getfield 138, 3) := by decide +kernel
theorem e127_16 {d : Nat} {l0 l1 l2 l3 l4 l5 : Option Value} {s0 : Nat} {σ : ab_St} {Q : Option Value → ab_St → Prop} : Ev d 127 16 [l0, l1, l2, l3, l4, l5] [.ref s0] σ Q = (ab_k s0 = 10 ∧ Ev d 127 19 [l0, l1, l2, l3, l4, l5] [.int (σ.1 s0 7)] σ Q) := ev_Hc (c := ab_k s0 = 10) d127_16 rfl rfl rfl rfl rfl rfl rfl rfl
theorem d127_19 : decode (ab_C 127) 19 = .ok (.iload_n 1, 1) := by decide +kernel
theorem e127_19 {d : Nat} {l0 l2 l3 l4 l5 : Option Value} {x : Int32} {s0 : Int32} {σ : ab_St} {Q : Option Value → ab_St → Prop} : Ev d 127 19 [l0, some (.int x), l2, l3, l4, l5] [.int s0] σ Q = Ev d 127 20 [l0, some (.int x), l2, l3, l4, l5] [.int x, .int s0] σ Q := ev_A1 d127_19 rfl
theorem d127_20 : decode (ab_C 127) 20 = .ok (.invokestatic 154, 3) := by decide +kernel
theorem e127_20 {d : Nat} {l0 l1 l2 l3 l4 l5 : Option Value} {s0 : Int32} {s1 : Int32} {σ : ab_St} {Q : Option Value → ab_St → Prop} : Ev (d + 1) 127 20 [l0, l1, l2, l3, l4, l5] [.int s0, .int s1] σ Q = Ev d 113 0 [some (.int s1), some (.int s0)] [] σ (fun r σ2 => Ev (d + 1) 127 23 [l0, l1, l2, l3, l4, l5] (r.toList ++ []) σ2 Q) := ev_K0 (y := 113) (ls := [l0, l1, l2, l3, l4, l5]) (st := [.int s0, .int s1]) (as := [.int s1, .int s0]) (rest := []) d127_20 rfl rfl rfl rfl rfl rfl rfl rfl
theorem d127_23 : decode (ab_C 127) 23 = .ok (.ifCond .eq 6, 3) := by decide +kernel
theorem e127_23 {d : Nat} {l0 l1 l2 l3 l4 l5 : Option Value} {s0 : Int32} {σ : ab_St} {Q : Option Value → ab_St → Prop} : Ev d 127 23 [l0, l1, l2, l3, l4, l5] [.int s0] σ Q = if s0 = 0 then Ev d 127 29 [l0, l1, l2, l3, l4, l5] [] σ Q else Ev d 127 26 [l0, l1, l2, l3, l4, l5] [] σ Q := ev_B (c := s0 = 0) d127_23 rfl rfl rfl rfl rfl
theorem d127_26 : decode (ab_C 127) 26 = .ok (.bipush (-3), 2) := by decide +kernel
theorem e127_26 {d : Nat} {l0 l1 l2 l3 l4 l5 : Option Value} {σ : ab_St} {Q : Option Value → ab_St → Prop} : Ev d 127 26 [l0, l1, l2, l3, l4, l5] [] σ Q = Ev d 127 28 [l0, l1, l2, l3, l4, l5] [.int (-3)] σ Q := ev_A1 d127_26 rfl
theorem d127_28 : decode (ab_C 127) 28 = .ok (.ireturn, 1) := by decide +kernel
theorem e127_28 {d : Nat} {l0 l1 l2 l3 l4 l5 : Option Value} {s0 : Int32} {σ : ab_St} {Q : Option Value → ab_St → Prop} : Ev d 127 28 [l0, l1, l2, l3, l4, l5] [.int s0] σ Q = Q (some (.int s0)) σ := ev_E d127_28 rfl rfl rfl rfl rfl rfl rfl
theorem d127_29 : decode (ab_C 127) 29 = .ok (.aload_n 0, 1) := by decide +kernel
theorem e127_29 {d : Nat} {l1 l2 l3 l4 l5 : Option Value} {x : Nat} {σ : ab_St} {Q : Option Value → ab_St → Prop} : Ev d 127 29 [some (.ref x), l1, l2, l3, l4, l5] [] σ Q = Ev d 127 30 [some (.ref x), l1, l2, l3, l4, l5] [.ref x] σ Q := ev_A1 d127_29 rfl
theorem d127_30 : decode (ab_C 127) 30 = .ok (.invokevirtual 182, 3) := by decide +kernel
theorem e127_30 {d : Nat} {l0 l1 l2 l3 l4 l5 : Option Value} {s0 : Nat} {σ : ab_St} {Q : Option Value → ab_St → Prop} : Ev (d + 1) 127 30 [l0, l1, l2, l3, l4, l5] [.ref s0] σ Q = (ab_k s0 = 10 ∧ Ev d 124 0 [some (.ref s0), none] [] σ (fun r σ2 => Ev (d + 1) 127 33 [l0, l1, l2, l3, l4, l5] (r.toList ++ []) σ2 Q)) := ev_KV (b := s0) (ls := [l0, l1, l2, l3, l4, l5]) (st := [.ref s0]) (as := []) (rest := []) d127_30 rfl rfl rfl (Nat.le_of_ble_eq_true rfl) (Nat.le_of_ble_eq_true rfl) (Nat.le_of_ble_eq_true rfl) rfl rfl rfl rfl rfl rfl rfl
theorem d127_33 : decode (ab_C 127) 33 = .ok (.iconst 0, 1) := by decide +kernel
theorem e127_33 {d : Nat} {l0 l1 l2 l3 l4 l5 : Option Value} {σ : ab_St} {Q : Option Value → ab_St → Prop} : Ev d 127 33 [l0, l1, l2, l3, l4, l5] [] σ Q = Ev d 127 34 [l0, l1, l2, l3, l4, l5] [.int 0] σ Q := ev_A1 d127_33 rfl
theorem d127_34 : decode (ab_C 127) 34 = .ok (.istore_n 2, 1) := by decide +kernel
theorem e127_34 {d : Nat} {l0 l1 l2 l3 l4 l5 : Option Value} {s0 : Int32} {σ : ab_St} {Q : Option Value → ab_St → Prop} : Ev d 127 34 [l0, l1, l2, l3, l4, l5] [.int s0] σ Q = Ev d 127 35 [l0, l1, some (.int s0), l3, l4, l5] [] σ Q := ev_S d127_34 rfl rfl rfl rfl
theorem d127_35 : decode (ab_C 127) 35 = .ok (.iconst 0, 1) := by decide +kernel
theorem e127_35 {d : Nat} {l0 l1 l2 l3 l4 l5 : Option Value} {σ : ab_St} {Q : Option Value → ab_St → Prop} : Ev d 127 35 [l0, l1, l2, l3, l4, l5] [] σ Q = Ev d 127 36 [l0, l1, l2, l3, l4, l5] [.int 0] σ Q := ev_A1 d127_35 rfl
theorem d127_36 : decode (ab_C 127) 36 = .ok (.istore_n 3, 1) := by decide +kernel
theorem e127_36 {d : Nat} {l0 l1 l2 l3 l4 l5 : Option Value} {s0 : Int32} {σ : ab_St} {Q : Option Value → ab_St → Prop} : Ev d 127 36 [l0, l1, l2, l3, l4, l5] [.int s0] σ Q = Ev d 127 37 [l0, l1, l2, some (.int s0), l4, l5] [] σ Q := ev_S d127_36 rfl rfl rfl rfl
theorem d127_37 : decode (ab_C 127) 37 = .ok (.iconst 0, 1) := by decide +kernel
theorem e127_37 {d : Nat} {l0 l1 l2 l3 l4 l5 : Option Value} {σ : ab_St} {Q : Option Value → ab_St → Prop} : Ev d 127 37 [l0, l1, l2, l3, l4, l5] [] σ Q = Ev d 127 38 [l0, l1, l2, l3, l4, l5] [.int 0] σ Q := ev_A1 d127_37 rfl
theorem d127_38 : decode (ab_C 127) 38 = .ok (.istore 4, 2) := by decide +kernel
theorem e127_38 {d : Nat} {l0 l1 l2 l3 l4 l5 : Option Value} {s0 : Int32} {σ : ab_St} {Q : Option Value → ab_St → Prop} : Ev d 127 38 [l0, l1, l2, l3, l4, l5] [.int s0] σ Q = Ev d 127 40 [l0, l1, l2, l3, some (.int s0), l5] [] σ Q := ev_S d127_38 rfl rfl rfl rfl
theorem d127_40 : decode (ab_C 127) 40 = .ok (.iconst 0, 1) := by decide +kernel
theorem e127_40 {d : Nat} {l0 l1 l2 l3 l4 l5 : Option Value} {σ : ab_St} {Q : Option Value → ab_St → Prop} : Ev d 127 40 [l0, l1, l2, l3, l4, l5] [] σ Q = Ev d 127 41 [l0, l1, l2, l3, l4, l5] [.int 0] σ Q := ev_A1 d127_40 rfl
theorem d127_41 : decode (ab_C 127) 41 = .ok (.istore 5, 2) := by decide +kernel
theorem e127_41 {d : Nat} {l0 l1 l2 l3 l4 l5 : Option Value} {s0 : Int32} {σ : ab_St} {Q : Option Value → ab_St → Prop} : Ev d 127 41 [l0, l1, l2, l3, l4, l5] [.int s0] σ Q = Ev d 127 43 [l0, l1, l2, l3, l4, some (.int s0)] [] σ Q := ev_S d127_41 rfl rfl rfl rfl
theorem d127_43 : decode (ab_C 127) 43 = .ok (.iload 5, 2) := by decide +kernel
theorem e127_43 {d : Nat} {l0 l1 l2 l3 l4 : Option Value} {x : Int32} {σ : ab_St} {Q : Option Value → ab_St → Prop} : Ev d 127 43 [l0, l1, l2, l3, l4, some (.int x)] [] σ Q = Ev d 127 45 [l0, l1, l2, l3, l4, some (.int x)] [.int x] σ Q := ev_A1 d127_43 rfl
theorem d127_45 : decode (ab_C 127) 45 = .ok (.aload_n 0, 1) := by decide +kernel
theorem e127_45 {d : Nat} {l1 l2 l3 l4 l5 : Option Value} {x : Nat} {s0 : Int32} {σ : ab_St} {Q : Option Value → ab_St → Prop} : Ev d 127 45 [some (.ref x), l1, l2, l3, l4, l5] [.int s0] σ Q = Ev d 127 46 [some (.ref x), l1, l2, l3, l4, l5] [.ref x, .int s0] σ Q := ev_A1 d127_45 rfl
theorem d127_46 : decode (ab_C 127) 46 = .ok (.getfield 82, 3) := by decide +kernel
theorem e127_46 {d : Nat} {l0 l1 l2 l3 l4 l5 : Option Value} {s0 : Nat} {s1 : Int32} {σ : ab_St} {Q : Option Value → ab_St → Prop} : Ev d 127 46 [l0, l1, l2, l3, l4, l5] [.ref s0, .int s1] σ Q = (ab_k s0 = 10 ∧ Ev d 127 49 [l0, l1, l2, l3, l4, l5] [.int (σ.1 s0 5), .int s1] σ Q) := ev_Hc (c := ab_k s0 = 10) d127_46 rfl rfl rfl rfl rfl rfl rfl rfl
theorem d127_49 : decode (ab_C 127) 49 = .ok (.if_icmp .ge 57, 3) := by decide +kernel
theorem e127_49 {d : Nat} {l0 l1 l2 l3 l4 l5 : Option Value} {s0 : Int32} {s1 : Int32} {σ : ab_St} {Q : Option Value → ab_St → Prop} : Ev d 127 49 [l0, l1, l2, l3, l4, l5] [.int s0, .int s1] σ Q = if s0 ≤ s1 then Ev d 127 106 [l0, l1, l2, l3, l4, l5] [] σ Q else Ev d 127 52 [l0, l1, l2, l3, l4, l5] [] σ Q := ev_B (c := s0 ≤ s1) d127_49 rfl rfl rfl rfl rfl
theorem d127_52 : decode (ab_C 127) 52 = .ok (.aload_n 0, 1) := by decide +kernel
theorem e127_52 {d : Nat} {l1 l2 l3 l4 l5 : Option Value} {x : Nat} {σ : ab_St} {Q : Option Value → ab_St → Prop} : Ev d 127 52 [some (.ref x), l1, l2, l3, l4, l5] [] σ Q = Ev d 127 53 [some (.ref x), l1, l2, l3, l4, l5] [.ref x] σ Q := ev_A1 d127_52 rfl
theorem d127_53 : decode (ab_C 127) 53 = .ok (.getfield 138, 3) := by decide +kernel
theorem e127_53 {d : Nat} {l0 l1 l2 l3 l4 l5 : Option Value} {s0 : Nat} {σ : ab_St} {Q : Option Value → ab_St → Prop} : Ev d 127 53 [l0, l1, l2, l3, l4, l5] [.ref s0] σ Q = (ab_k s0 = 10 ∧ Ev d 127 56 [l0, l1, l2, l3, l4, l5] [.int (σ.1 s0 7)] σ Q) := ev_Hc (c := ab_k s0 = 10) d127_53 rfl rfl rfl rfl rfl rfl rfl rfl
theorem d127_56 : decode (ab_C 127) 56 = .ok (.iload 5, 2) := by decide +kernel
theorem e127_56 {d : Nat} {l0 l1 l2 l3 l4 : Option Value} {x : Int32} {s0 : Int32} {σ : ab_St} {Q : Option Value → ab_St → Prop} : Ev d 127 56 [l0, l1, l2, l3, l4, some (.int x)] [.int s0] σ Q = Ev d 127 58 [l0, l1, l2, l3, l4, some (.int x)] [.int x, .int s0] σ Q := ev_A1 d127_56 rfl
theorem d127_58 : decode (ab_C 127) 58 = .ok (.invokestatic 154, 3) := by decide +kernel
theorem e127_58 {d : Nat} {l0 l1 l2 l3 l4 l5 : Option Value} {s0 : Int32} {s1 : Int32} {σ : ab_St} {Q : Option Value → ab_St → Prop} : Ev (d + 1) 127 58 [l0, l1, l2, l3, l4, l5] [.int s0, .int s1] σ Q = Ev d 113 0 [some (.int s1), some (.int s0)] [] σ (fun r σ2 => Ev (d + 1) 127 61 [l0, l1, l2, l3, l4, l5] (r.toList ++ []) σ2 Q) := ev_K0 (y := 113) (ls := [l0, l1, l2, l3, l4, l5]) (st := [.int s0, .int s1]) (as := [.int s1, .int s0]) (rest := []) d127_58 rfl rfl rfl rfl rfl rfl rfl rfl
theorem d127_61 : decode (ab_C 127) 61 = .ok (.ifCond .eq 39, 3) := by decide +kernel
theorem e127_61 {d : Nat} {l0 l1 l2 l3 l4 l5 : Option Value} {s0 : Int32} {σ : ab_St} {Q : Option Value → ab_St → Prop} : Ev d 127 61 [l0, l1, l2, l3, l4, l5] [.int s0] σ Q = if s0 = 0 then Ev d 127 100 [l0, l1, l2, l3, l4, l5] [] σ Q else Ev d 127 64 [l0, l1, l2, l3, l4, l5] [] σ Q := ev_B (c := s0 = 0) d127_61 rfl rfl rfl rfl rfl
theorem d127_64 : decode (ab_C 127) 64 = .ok (.iinc 4 1, 3) := by decide +kernel
theorem e127_64 {d : Nat} {l0 l1 l2 l3 l5 : Option Value} {x : Int32} {σ : ab_St} {Q : Option Value → ab_St → Prop} : Ev d 127 64 [l0, l1, l2, l3, some (.int x), l5] [] σ Q = Ev d 127 67 [l0, l1, l2, l3, some (.int (x + 1)), l5] [] σ Q := ev_S d127_64 rfl rfl rfl rfl
theorem d127_67 : decode (ab_C 127) 67 = .ok (.iload_n 2, 1) := by decide +kernel
theorem e127_67 {d : Nat} {l0 l1 l3 l4 l5 : Option Value} {x : Int32} {σ : ab_St} {Q : Option Value → ab_St → Prop} : Ev d 127 67 [l0, l1, some (.int x), l3, l4, l5] [] σ Q = Ev d 127 68 [l0, l1, some (.int x), l3, l4, l5] [.int x] σ Q := ev_A1 d127_67 rfl
theorem d127_68 : decode (ab_C 127) 68 = .ok (.aload_n 0, 1) := by decide +kernel
theorem e127_68 {d : Nat} {l1 l2 l3 l4 l5 : Option Value} {x : Nat} {s0 : Int32} {σ : ab_St} {Q : Option Value → ab_St → Prop} : Ev d 127 68 [some (.ref x), l1, l2, l3, l4, l5] [.int s0] σ Q = Ev d 127 69 [some (.ref x), l1, l2, l3, l4, l5] [.ref x, .int s0] σ Q := ev_A1 d127_68 rfl
theorem d127_69 : decode (ab_C 127) 69 = .ok (.getfield 13, 3) := by decide +kernel
theorem e127_69 {d : Nat} {l0 l1 l2 l3 l4 l5 : Option Value} {s0 : Nat} {s1 : Int32} {σ : ab_St} {Q : Option Value → ab_St → Prop} : Ev d 127 69 [l0, l1, l2, l3, l4, l5] [.ref s0, .int s1] σ Q = (ab_k s0 = 10 ∧ Ev d 127 72 [l0, l1, l2, l3, l4, l5] [.ref (ab_r s0 6), .int s1] σ Q) := ev_Hc (c := ab_k s0 = 10) d127_69 rfl rfl rfl rfl rfl rfl rfl rfl
theorem d127_72 : decode (ab_C 127) 72 = .ok (.iload 5, 2) := by decide +kernel
theorem e127_72 {d : Nat} {l0 l1 l2 l3 l4 : Option Value} {x : Int32} {s0 : Nat} {s1 : Int32} {σ : ab_St} {Q : Option Value → ab_St → Prop} : Ev d 127 72 [l0, l1, l2, l3, l4, some (.int x)] [.ref s0, .int s1] σ Q = Ev d 127 74 [l0, l1, l2, l3, l4, some (.int x)] [.int x, .ref s0, .int s1] σ Q := ev_A1 d127_72 rfl
theorem d127_74 : decode (ab_C 127) 74 = .ok (.iaload, 1) := by decide +kernel
theorem e127_74 {d : Nat} {l0 l1 l2 l3 l4 l5 : Option Value} {s0 : Int32} {s1 : Nat} {s2 : Int32} {σ : ab_St} {Q : Option Value → ab_St → Prop} : Ev d 127 74 [l0, l1, l2, l3, l4, l5] [.int s0, .ref s1, .int s2] σ Q = ((ab_k s1 = 100 ∧ ab_in s0 (ab_n s1)) ∧ Ev d 127 75 [l0, l1, l2, l3, l4, l5] [.int (σ.1 s1 s0.toNatClampNeg), .int s2] σ Q) := ev_Hc (c := ab_k s1 = 100 ∧ ab_in s0 (ab_n s1)) d127_74 rfl rfl rfl rfl rfl rfl rfl rfl
theorem d127_75 : decode (ab_C 127) 75 = .ok (.iadd, 1) := by decide +kernel
theorem e127_75 {d : Nat} {l0 l1 l2 l3 l4 l5 : Option Value} {s0 : Int32} {s1 : Int32} {σ : ab_St} {Q : Option Value → ab_St → Prop} : Ev d 127 75 [l0, l1, l2, l3, l4, l5] [.int s0, .int s1] σ Q = Ev d 127 76 [l0, l1, l2, l3, l4, l5] [.int (s1 + s0)] σ Q := ev_A2 d127_75 rfl rfl
theorem d127_76 : decode (ab_C 127) 76 = .ok (.istore_n 2, 1) := by decide +kernel
theorem e127_76 {d : Nat} {l0 l1 l2 l3 l4 l5 : Option Value} {s0 : Int32} {σ : ab_St} {Q : Option Value → ab_St → Prop} : Ev d 127 76 [l0, l1, l2, l3, l4, l5] [.int s0] σ Q = Ev d 127 77 [l0, l1, some (.int s0), l3, l4, l5] [] σ Q := ev_S d127_76 rfl rfl rfl rfl
theorem d127_77 : decode (ab_C 127) 77 = .ok (.aload_n 0, 1) := by decide +kernel
theorem e127_77 {d : Nat} {l1 l2 l3 l4 l5 : Option Value} {x : Nat} {σ : ab_St} {Q : Option Value → ab_St → Prop} : Ev d 127 77 [some (.ref x), l1, l2, l3, l4, l5] [] σ Q = Ev d 127 78 [some (.ref x), l1, l2, l3, l4, l5] [.ref x] σ Q := ev_A1 d127_77 rfl
theorem d127_78 : decode (ab_C 127) 78 = .ok (.getfield 13, 3) := by decide +kernel
theorem e127_78 {d : Nat} {l0 l1 l2 l3 l4 l5 : Option Value} {s0 : Nat} {σ : ab_St} {Q : Option Value → ab_St → Prop} : Ev d 127 78 [l0, l1, l2, l3, l4, l5] [.ref s0] σ Q = (ab_k s0 = 10 ∧ Ev d 127 81 [l0, l1, l2, l3, l4, l5] [.ref (ab_r s0 6)] σ Q) := ev_Hc (c := ab_k s0 = 10) d127_78 rfl rfl rfl rfl rfl rfl rfl rfl
theorem d127_81 : decode (ab_C 127) 81 = .ok (.iload 5, 2) := by decide +kernel
theorem e127_81 {d : Nat} {l0 l1 l2 l3 l4 : Option Value} {x : Int32} {s0 : Nat} {σ : ab_St} {Q : Option Value → ab_St → Prop} : Ev d 127 81 [l0, l1, l2, l3, l4, some (.int x)] [.ref s0] σ Q = Ev d 127 83 [l0, l1, l2, l3, l4, some (.int x)] [.int x, .ref s0] σ Q := ev_A1 d127_81 rfl
theorem d127_83 : decode (ab_C 127) 83 = .ok (.iaload, 1) := by decide +kernel
theorem e127_83 {d : Nat} {l0 l1 l2 l3 l4 l5 : Option Value} {s0 : Int32} {s1 : Nat} {σ : ab_St} {Q : Option Value → ab_St → Prop} : Ev d 127 83 [l0, l1, l2, l3, l4, l5] [.int s0, .ref s1] σ Q = ((ab_k s1 = 100 ∧ ab_in s0 (ab_n s1)) ∧ Ev d 127 84 [l0, l1, l2, l3, l4, l5] [.int (σ.1 s1 s0.toNatClampNeg)] σ Q) := ev_Hc (c := ab_k s1 = 100 ∧ ab_in s0 (ab_n s1)) d127_83 rfl rfl rfl rfl rfl rfl rfl rfl
theorem d127_84 : decode (ab_C 127) 84 = .ok (.iload_n 3, 1) := by decide +kernel
theorem e127_84 {d : Nat} {l0 l1 l2 l4 l5 : Option Value} {x : Int32} {s0 : Int32} {σ : ab_St} {Q : Option Value → ab_St → Prop} : Ev d 127 84 [l0, l1, l2, some (.int x), l4, l5] [.int s0] σ Q = Ev d 127 85 [l0, l1, l2, some (.int x), l4, l5] [.int x, .int s0] σ Q := ev_A1 d127_84 rfl
theorem d127_85 : decode (ab_C 127) 85 = .ok (.if_icmp .le 13, 3) := by decide +kernel
theorem e127_85 {d : Nat} {l0 l1 l2 l3 l4 l5 : Option Value} {s0 : Int32} {s1 : Int32} {σ : ab_St} {Q : Option Value → ab_St → Prop} : Ev d 127 85 [l0, l1, l2, l3, l4, l5] [.int s0, .int s1] σ Q = if s1 ≤ s0 then Ev d 127 98 [l0, l1, l2, l3, l4, l5] [] σ Q else Ev d 127 88 [l0, l1, l2, l3, l4, l5] [] σ Q := ev_B (c := s1 ≤ s0) d127_85 rfl rfl rfl rfl rfl
theorem d127_88 : decode (ab_C 127) 88 = .ok (.aload_n 0, 1) := by decide +kernel
theorem e127_88 {d : Nat} {l1 l2 l3 l4 l5 : Option Value} {x : Nat} {σ : ab_St} {Q : Option Value → ab_St → Prop} : Ev d 127 88 [some (.ref x), l1, l2, l3, l4, l5] [] σ Q = Ev d 127 89 [some (.ref x), l1, l2, l3, l4, l5] [.ref x] σ Q := ev_A1 d127_88 rfl
theorem d127_89 : decode (ab_C 127) 89 = .ok (.getfield 13, 3) := by decide +kernel
theorem e127_89 {d : Nat} {l0 l1 l2 l3 l4 l5 : Option Value} {s0 : Nat} {σ : ab_St} {Q : Option Value → ab_St → Prop} : Ev d 127 89 [l0, l1, l2, l3, l4, l5] [.ref s0] σ Q = (ab_k s0 = 10 ∧ Ev d 127 92 [l0, l1, l2, l3, l4, l5] [.ref (ab_r s0 6)] σ Q) := ev_Hc (c := ab_k s0 = 10) d127_89 rfl rfl rfl rfl rfl rfl rfl rfl
theorem d127_92 : decode (ab_C 127) 92 = .ok (.iload 5, 2) := by decide +kernel
theorem e127_92 {d : Nat} {l0 l1 l2 l3 l4 : Option Value} {x : Int32} {s0 : Nat} {σ : ab_St} {Q : Option Value → ab_St → Prop} : Ev d 127 92 [l0, l1, l2, l3, l4, some (.int x)] [.ref s0] σ Q = Ev d 127 94 [l0, l1, l2, l3, l4, some (.int x)] [.int x, .ref s0] σ Q := ev_A1 d127_92 rfl
theorem d127_94 : decode (ab_C 127) 94 = .ok (.iaload, 1) := by decide +kernel
theorem e127_94 {d : Nat} {l0 l1 l2 l3 l4 l5 : Option Value} {s0 : Int32} {s1 : Nat} {σ : ab_St} {Q : Option Value → ab_St → Prop} : Ev d 127 94 [l0, l1, l2, l3, l4, l5] [.int s0, .ref s1] σ Q = ((ab_k s1 = 100 ∧ ab_in s0 (ab_n s1)) ∧ Ev d 127 95 [l0, l1, l2, l3, l4, l5] [.int (σ.1 s1 s0.toNatClampNeg)] σ Q) := ev_Hc (c := ab_k s1 = 100 ∧ ab_in s0 (ab_n s1)) d127_94 rfl rfl rfl rfl rfl rfl rfl rfl
theorem d127_95 : decode (ab_C 127) 95 = .ok (.goto 4, 3) := by decide +kernel
theorem e127_95 {d : Nat} {l0 l1 l2 l3 l4 l5 : Option Value} {s0 : Int32} {σ : ab_St} {Q : Option Value → ab_St → Prop} : Ev d 127 95 [l0, l1, l2, l3, l4, l5] [.int s0] σ Q = Ev d 127 99 [l0, l1, l2, l3, l4, l5] [.int s0] σ Q := ev_J d127_95 rfl rfl rfl rfl rfl
theorem d127_98 : decode (ab_C 127) 98 = .ok (.iload_n 3, 1) := by decide +kernel
theorem e127_98 {d : Nat} {l0 l1 l2 l4 l5 : Option Value} {x : Int32} {σ : ab_St} {Q : Option Value → ab_St → Prop} : Ev d 127 98 [l0, l1, l2, some (.int x), l4, l5] [] σ Q = Ev d 127 99 [l0, l1, l2, some (.int x), l4, l5] [.int x] σ Q := ev_A1 d127_98 rfl
theorem d127_99 : decode (ab_C 127) 99 = .ok (.istore_n 3, 1) := by decide +kernel
theorem e127_99 {d : Nat} {l0 l1 l2 l3 l4 l5 : Option Value} {s0 : Int32} {σ : ab_St} {Q : Option Value → ab_St → Prop} : Ev d 127 99 [l0, l1, l2, l3, l4, l5] [.int s0] σ Q = Ev d 127 100 [l0, l1, l2, some (.int s0), l4, l5] [] σ Q := ev_S d127_99 rfl rfl rfl rfl
theorem d127_100 : decode (ab_C 127) 100 = .ok (.iinc 5 1, 3) := by decide +kernel
theorem e127_100 {d : Nat} {l0 l1 l2 l3 l4 : Option Value} {x : Int32} {σ : ab_St} {Q : Option Value → ab_St → Prop} : Ev d 127 100 [l0, l1, l2, l3, l4, some (.int x)] [] σ Q = Ev d 127 103 [l0, l1, l2, l3, l4, some (.int (x + 1))] [] σ Q := ev_S d127_100 rfl rfl rfl rfl
theorem d127_103 : decode (ab_C 127) 103 = .ok (.goto (-60), 3) := by decide +kernel
theorem e127_103 {d : Nat} {l0 l1 l2 l3 l4 l5 : Option Value} {σ : ab_St} {Q : Option Value → ab_St → Prop} : Ev d 127 103 [l0, l1, l2, l3, l4, l5] [] σ Q = Ev d 127 43 [l0, l1, l2, l3, l4, l5] [] σ Q := ev_J d127_103 rfl rfl rfl rfl rfl
theorem d127_106 : decode (ab_C 127) 106 = .ok (.aload_n 0, 1) := by decide +kernel
theorem e127_106 {d : Nat} {l1 l2 l3 l4 l5 : Option Value} {x : Nat} {σ : ab_St} {Q : Option Value → ab_St → Prop} : Ev d 127 106 [some (.ref x), l1, l2, l3, l4, l5] [] σ Q = Ev d 127 107 [some (.ref x), l1, l2, l3, l4, l5] [.ref x] σ Q := ev_A1 d127_106 rfl
theorem d127_107 : decode (ab_C 127) 107 = .ok (.getfield 13, 3) := by decide +kernel
theorem e127_107 {d : Nat} {l0 l1 l2 l3 l4 l5 : Option Value} {s0 : Nat} {σ : ab_St} {Q : Option Value → ab_St → Prop} : Ev d 127 107 [l0, l1, l2, l3, l4, l5] [.ref s0] σ Q = (ab_k s0 = 10 ∧ Ev d 127 110 [l0, l1, l2, l3, l4, l5] [.ref (ab_r s0 6)] σ Q) := ev_Hc (c := ab_k s0 = 10) d127_107 rfl rfl rfl rfl rfl rfl rfl rfl
theorem d127_110 : decode (ab_C 127) 110 = .ok (.iload_n 1, 1) := by decide +kernel
theorem e127_110 {d : Nat} {l0 l2 l3 l4 l5 : Option Value} {x : Int32} {s0 : Nat} {σ : ab_St} {Q : Option Value → ab_St → Prop} : Ev d 127 110 [l0, some (.int x), l2, l3, l4, l5] [.ref s0] σ Q = Ev d 127 111 [l0, some (.int x), l2, l3, l4, l5] [.int x, .ref s0] σ Q := ev_A1 d127_110 rfl
theorem d127_111 : decode (ab_C 127) 111 = .ok (.iload 4, 2) := by decide +kernel
theorem e127_111 {d : Nat} {l0 l1 l2 l3 l5 : Option Value} {x : Int32} {s0 : Int32} {s1 : Nat} {σ : ab_St} {Q : Option Value → ab_St → Prop} : Ev d 127 111 [l0, l1, l2, l3, some (.int x), l5] [.int s0, .ref s1] σ Q = Ev d 127 113 [l0, l1, l2, l3, some (.int x), l5] [.int x, .int s0, .ref s1] σ Q := ev_A1 d127_111 rfl
theorem d127_113 : decode (ab_C 127) 113 = .ok (.ifCond .eq 10, 3) := by decide +kernel
theorem e127_113 {d : Nat} {l0 l1 l2 l3 l4 l5 : Option Value} {s0 : Int32} {s1 : Int32} {s2 : Nat} {σ : ab_St} {Q : Option Value → ab_St → Prop} : Ev d 127 113 [l0, l1, l2, l3, l4, l5] [.int s0, .int s1, .ref s2] σ Q = if s0 = 0 then Ev d 127 123 [l0, l1, l2, l3, l4, l5] [.int s1, .ref s2] σ Q else Ev d 127 116 [l0, l1, l2, l3, l4, l5] [.int s1, .ref s2] σ Q := ev_B (c := s0 = 0) d127_113 rfl rfl rfl rfl rfl
theorem d127_116 : decode (ab_C 127) 116 = .ok (.aload_n 0, 1) := by decide +kernel
theorem e127_116 {d : Nat} {l1 l2 l3 l4 l5 : Option Value} {x : Nat} {s0 : Int32} {s1 : Nat} {σ : ab_St} {Q : Option Value → ab_St → Prop} : Ev d 127 116 [some (.ref x), l1, l2, l3, l4, l5] [.int s0, .ref s1] σ Q = Ev d 127 117 [some (.ref x), l1, l2, l3, l4, l5] [.ref x, .int s0, .ref s1] σ Q := ev_A1 d127_116 rfl
theorem d127_117 : decode (ab_C 127) 117 = .ok (.getfield 135, 3) := by decide +kernel
theorem e127_117 {d : Nat} {l0 l1 l2 l3 l4 l5 : Option Value} {s0 : Nat} {s1 : Int32} {s2 : Nat} {σ : ab_St} {Q : Option Value → ab_St → Prop} : Ev d 127 117 [l0, l1, l2, l3, l4, l5] [.ref s0, .int s1, .ref s2] σ Q = (ab_k s0 = 10 ∧ Ev d 127 120 [l0, l1, l2, l3, l4, l5] [.int (σ.1 s0 4), .int s1, .ref s2] σ Q) := ev_Hc (c := ab_k s0 = 10) d127_117 rfl rfl rfl rfl rfl rfl rfl rfl
theorem d127_120 : decode (ab_C 127) 120 = .ok (.ifCond .ne 7, 3) := by decide +kernel
theorem e127_120 {d : Nat} {l0 l1 l2 l3 l4 l5 : Option Value} {s0 : Int32} {s1 : Int32} {s2 : Nat} {σ : ab_St} {Q : Option Value → ab_St → Prop} : Ev d 127 120 [l0, l1, l2, l3, l4, l5] [.int s0, .int s1, .ref s2] σ Q = if s0 = 0 then Ev d 127 123 [l0, l1, l2, l3, l4, l5] [.int s1, .ref s2] σ Q else Ev d 127 127 [l0, l1, l2, l3, l4, l5] [.int s1, .ref s2] σ Q := ev_B (c := s0 = 0) d127_120 rfl rfl rfl rfl rfl
theorem d127_123 : decode (ab_C 127) 123 = .ok (.iconst 0, 1) := by decide +kernel
theorem e127_123 {d : Nat} {l0 l1 l2 l3 l4 l5 : Option Value} {s0 : Int32} {s1 : Nat} {σ : ab_St} {Q : Option Value → ab_St → Prop} : Ev d 127 123 [l0, l1, l2, l3, l4, l5] [.int s0, .ref s1] σ Q = Ev d 127 124 [l0, l1, l2, l3, l4, l5] [.int 0, .int s0, .ref s1] σ Q := ev_A1 d127_123 rfl
theorem d127_124 : decode (ab_C 127) 124 = .ok (.goto 19, 3) := by decide +kernel
theorem e127_124 {d : Nat} {l0 l1 l2 l3 l4 l5 : Option Value} {s0 : Int32} {s1 : Int32} {s2 : Nat} {σ : ab_St} {Q : Option Value → ab_St → Prop} : Ev d 127 124 [l0, l1, l2, l3, l4, l5] [.int s0, .int s1, .ref s2] σ Q = Ev d 127 143 [l0, l1, l2, l3, l4, l5] [.int s0, .int s1, .ref s2] σ Q := ev_J d127_124 rfl rfl rfl rfl rfl
theorem d127_127 : decode (ab_C 127) 127 = .ok (.aload_n 0, 1) := by decide +kernel
theorem e127_127 {d : Nat} {l1 l2 l3 l4 l5 : Option Value} {x : Nat} {s0 : Int32} {s1 : Nat} {σ : ab_St} {Q : Option Value → ab_St → Prop} : Ev d 127 127 [some (.ref x), l1, l2, l3, l4, l5] [.int s0, .ref s1] σ Q = Ev d 127 128 [some (.ref x), l1, l2, l3, l4, l5] [.ref x, .int s0, .ref s1] σ Q := ev_A1 d127_127 rfl
theorem d127_128 : decode (ab_C 127) 128 = .ok (.getfield 135, 3) := by decide +kernel
theorem e127_128 {d : Nat} {l0 l1 l2 l3 l4 l5 : Option Value} {s0 : Nat} {s1 : Int32} {s2 : Nat} {σ : ab_St} {Q : Option Value → ab_St → Prop} : Ev d 127 128 [l0, l1, l2, l3, l4, l5] [.ref s0, .int s1, .ref s2] σ Q = (ab_k s0 = 10 ∧ Ev d 127 131 [l0, l1, l2, l3, l4, l5] [.int (σ.1 s0 4), .int s1, .ref s2] σ Q) := ev_Hc (c := ab_k s0 = 10) d127_128 rfl rfl rfl rfl rfl rfl rfl rfl
theorem d127_131 : decode (ab_C 127) 131 = .ok (.iconst 1, 1) := by decide +kernel
theorem e127_131 {d : Nat} {l0 l1 l2 l3 l4 l5 : Option Value} {s0 : Int32} {s1 : Int32} {s2 : Nat} {σ : ab_St} {Q : Option Value → ab_St → Prop} : Ev d 127 131 [l0, l1, l2, l3, l4, l5] [.int s0, .int s1, .ref s2] σ Q = Ev d 127 132 [l0, l1, l2, l3, l4, l5] [.int 1, .int s0, .int s1, .ref s2] σ Q := ev_A1 d127_131 rfl
theorem d127_132 : decode (ab_C 127) 132 = .ok (.if_icmp .ne 10, 3) := by decide +kernel
theorem e127_132 {d : Nat} {l0 l1 l2 l3 l4 l5 : Option Value} {s0 : Int32} {s1 : Int32} {s2 : Int32} {s3 : Nat} {σ : ab_St} {Q : Option Value → ab_St → Prop} : Ev d 127 132 [l0, l1, l2, l3, l4, l5] [.int s0, .int s1, .int s2, .ref s3] σ Q = if s1 = s0 then Ev d 127 135 [l0, l1, l2, l3, l4, l5] [.int s2, .ref s3] σ Q else Ev d 127 142 [l0, l1, l2, l3, l4, l5] [.int s2, .ref s3] σ Q := ev_B (c := s1 = s0) d127_132 rfl rfl rfl rfl rfl
theorem d127_135 : decode (ab_C 127) 135 = .ok (.iload_n 2, 1) := by decide +kernel
theorem e127_135 {d : Nat} {l0 l1 l3 l4 l5 : Option Value} {x : Int32} {s0 : Int32} {s1 : Nat} {σ : ab_St} {Q : Option Value → ab_St → Prop} : Ev d 127 135 [l0, l1, some (.int x), l3, l4, l5] [.int s0, .ref s1] σ Q = Ev d 127 136 [l0, l1, some (.int x), l3, l4, l5] [.int x, .int s0, .ref s1] σ Q := ev_A1 d127_135 rfl
theorem d127_136 : decode (ab_C 127) 136 = .ok (.iload 4, 2) := by decide +kernel
theorem e127_136 {d : Nat} {l0 l1 l2 l3 l5 : Option Value} {x : Int32} {s0 : Int32} {s1 : Int32} {s2 : Nat} {σ : ab_St} {Q : Option Value → ab_St → Prop} : Ev d 127 136 [l0, l1, l2, l3, some (.int x), l5] [.int s0, .int s1, .ref s2] σ Q = Ev d 127 138 [l0, l1, l2, l3, some (.int x), l5] [.int x, .int s0, .int s1, .ref s2] σ Q := ev_A1 d127_136 rfl
theorem d127_138 : decode (ab_C 127) 138 = .ok (.idiv, 1) := by decide +kernel
theorem e127_138 {d : Nat} {l0 l1 l2 l3 l4 l5 : Option Value} {s0 : Int32} {s1 : Int32} {s2 : Int32} {s3 : Nat} {σ : ab_St} {Q : Option Value → ab_St → Prop} : Ev d 127 138 [l0, l1, l2, l3, l4, l5] [.int s0, .int s1, .int s2, .ref s3] σ Q = (¬ s0 = 0 ∧ Ev d 127 139 [l0, l1, l2, l3, l4, l5] [.int (s1 / s0), .int s2, .ref s3] σ Q) := ev_D (c := s0 = 0) d127_138 rfl rfl rfl rfl rfl rfl rfl rfl
theorem d127_139 : decode (ab_C 127) 139 = .ok (.goto 4, 3) := by decide +kernel
theorem e127_139 {d : Nat} {l0 l1 l2 l3 l4 l5 : Option Value} {s0 : Int32} {s1 : Int32} {s2 : Nat} {σ : ab_St} {Q : Option Value → ab_St → Prop} : Ev d 127 139 [l0, l1, l2, l3, l4, l5] [.int s0, .int s1, .ref s2] σ Q = Ev d 127 143 [l0, l1, l2, l3, l4, l5] [.int s0, .int s1, .ref s2] σ Q := ev_J d127_139 rfl rfl rfl rfl rfl
theorem d127_142 : decode (ab_C 127) 142 = .ok (.iload_n 3, 1) := by decide +kernel
theorem e127_142 {d : Nat} {l0 l1 l2 l4 l5 : Option Value} {x : Int32} {s0 : Int32} {s1 : Nat} {σ : ab_St} {Q : Option Value → ab_St → Prop} : Ev d 127 142 [l0, l1, l2, some (.int x), l4, l5] [.int s0, .ref s1] σ Q = Ev d 127 143 [l0, l1, l2, some (.int x), l4, l5] [.int x, .int s0, .ref s1] σ Q := ev_A1 d127_142 rfl
theorem d127_143 : decode (ab_C 127) 143 = .ok (.iastore, 1) := by decide +kernel
theorem e127_143 {d : Nat} {l0 l1 l2 l3 l4 l5 : Option Value} {s0 : Int32} {s1 : Int32} {s2 : Nat} {σ : ab_St} {Q : Option Value → ab_St → Prop} : Ev d 127 143 [l0, l1, l2, l3, l4, l5] [.int s0, .int s1, .ref s2] σ Q = ((ab_k s2 = 100 ∧ ab_in s1 (ab_n s2)) ∧ Ev d 127 144 [l0, l1, l2, l3, l4, l5] [] (ab_wI σ s2 (upd (σ.1 s2) s1.toNatClampNeg s0)) Q) := ev_Hc (c := ab_k s2 = 100 ∧ ab_in s1 (ab_n s2)) d127_143 rfl rfl rfl rfl rfl rfl rfl rfl
theorem d127_144 : decode (ab_C 127) 144 = .ok (.aload_n 0, 1) := by decide +kernel
theorem e127_144 {d : Nat} {l1 l2 l3 l4 l5 : Option Value} {x : Nat} {σ : ab_St} {Q : Option Value → ab_St → Prop} : Ev d 127 144 [some (.ref x), l1, l2, l3, l4, l5] [] σ Q = Ev d 127 145 [some (.ref x), l1, l2, l3, l4, l5] [.ref x] σ Q := ev_A1 d127_144 rfl
theorem d127_145 : decode (ab_C 127) 145 = .ok (.dup, 1) := by decide +kernel
theorem e127_145 {d : Nat} {l0 l1 l2 l3 l4 l5 : Option Value} {s0 : Nat} {σ : ab_St} {Q : Option Value → ab_St → Prop} : Ev d 127 145 [l0, l1, l2, l3, l4, l5] [.ref s0] σ Q = Ev d 127 146 [l0, l1, l2, l3, l4, l5] [.ref s0, .ref s0] σ Q := ev_A1 d127_145 rfl
theorem d127_146 : decode (ab_C 127) 146 = .ok (.getfield 138, 3) := by decide +kernel
theorem e127_146 {d : Nat} {l0 l1 l2 l3 l4 l5 : Option Value} {s0 : Nat} {s1 : Nat} {σ : ab_St} {Q : Option Value → ab_St → Prop} : Ev d 127 146 [l0, l1, l2, l3, l4, l5] [.ref s0, .ref s1] σ Q = (ab_k s0 = 10 ∧ Ev d 127 149 [l0, l1, l2, l3, l4, l5] [.int (σ.1 s0 7), .ref s1] σ Q) := ev_Hc (c := ab_k s0 = 10) d127_146 rfl rfl rfl rfl rfl rfl rfl rfl
theorem d127_149 : decode (ab_C 127) 149 = .ok (.iconst 1, 1) := by decide +kernel
theorem e127_149 {d : Nat} {l0 l1 l2 l3 l4 l5 : Option Value} {s0 : Int32} {s1 : Nat} {σ : ab_St} {Q : Option Value → ab_St → Prop} : Ev d 127 149 [l0, l1, l2, l3, l4, l5] [.int s0, .ref s1] σ Q = Ev d 127 150 [l0, l1, l2, l3, l4, l5] [.int 1, .int s0, .ref s1] σ Q := ev_A1 d127_149 rfl
theorem d127_150 : decode (ab_C 127) 150 = .ok (.iload_n 1, 1) := by decide +kernel
theorem e127_150 {d : Nat} {l0 l2 l3 l4 l5 : Option Value} {x : Int32} {s0 : Int32} {s1 : Int32} {s2 : Nat} {σ : ab_St} {Q : Option Value → ab_St → Prop} : Ev d 127 150 [l0, some (.int x), l2, l3, l4, l5] [.int s0, .int s1, .ref s2] σ Q = Ev d 127 151 [l0, some (.int x), l2, l3, l4, l5] [.int x, .int s0, .int s1, .ref s2] σ Q := ev_A1 d127_150 rfl
theorem d127_151 : decode (ab_C 127) 151 = .ok (.ishl, 1) := by decide +kernel
theorem e127_151 {d : Nat} {l0 l1 l2 l3 l4 l5 : Option Value} {s0 : Int32} {s1 : Int32} {s2 : Int32} {s3 : Nat} {σ : ab_St} {Q : Option Value → ab_St → Prop} : Ev d 127 151 [l0, l1, l2, l3, l4, l5] [.int s0, .int s1, .int s2, .ref s3] σ Q = Ev d 127 152 [l0, l1, l2, l3, l4, l5] [.int (s1 <<< (s0 &&& 31)), .int s2, .ref s3] σ Q := ev_A2 d127_151 rfl rfl
theorem d127_152 : decode (ab_C 127) 152 = .ok (.ior, 1) := by decide +kernel
theorem e127_152 {d : Nat} {l0 l1 l2 l3 l4 l5 : Option Value} {s0 : Int32} {s1 : Int32} {s2 : Nat} {σ : ab_St} {Q : Option Value → ab_St → Prop} : Ev d 127 152 [l0, l1, l2, l3, l4, l5] [.int s0, .int s1, .ref s2] σ Q = Ev d 127 153 [l0, l1, l2, l3, l4, l5] [.int (s1 ||| s0), .ref s2] σ Q := ev_A2 d127_152 rfl rfl
theorem d127_153 : decode (ab_C 127) 153 = .ok (.putfield 138, 3) := by decide +kernel
theorem e127_153 {d : Nat} {l0 l1 l2 l3 l4 l5 : Option Value} {s0 : Int32} {s1 : Nat} {σ : ab_St} {Q : Option Value → ab_St → Prop} : Ev d 127 153 [l0, l1, l2, l3, l4, l5] [.int s0, .ref s1] σ Q = (ab_k s1 = 10 ∧ Ev d 127 156 [l0, l1, l2, l3, l4, l5] [] (ab_wI σ s1 (upd (σ.1 s1) 7 s0)) Q) := ev_Hc (c := ab_k s1 = 10) d127_153 rfl rfl rfl rfl rfl rfl rfl rfl
theorem d127_156 : decode (ab_C 127) 156 = .ok (.aload_n 0, 1) := by decide +kernel
theorem e127_156 {d : Nat} {l1 l2 l3 l4 l5 : Option Value} {x : Nat} {σ : ab_St} {Q : Option Value → ab_St → Prop} : Ev d 127 156 [some (.ref x), l1, l2, l3, l4, l5] [] σ Q = Ev d 127 157 [some (.ref x), l1, l2, l3, l4, l5] [.ref x] σ Q := ev_A1 d127_156 rfl
theorem d127_157 : decode (ab_C 127) 157 = .ok (.bipush (-9), 2) := by decide +kernel
theorem e127_157 {d : Nat} {l0 l1 l2 l3 l4 l5 : Option Value} {s0 : Nat} {σ : ab_St} {Q : Option Value → ab_St → Prop} : Ev d 127 157 [l0, l1, l2, l3, l4, l5] [.ref s0] σ Q = Ev d 127 159 [l0, l1, l2, l3, l4, l5] [.int (-9), .ref s0] σ Q := ev_A1 d127_157 rfl
theorem d127_159 : decode (ab_C 127) 159 = .ok (.putfield 28, 3) := by decide +kernel
theorem e127_159 {d : Nat} {l0 l1 l2 l3 l4 l5 : Option Value} {s0 : Int32} {s1 : Nat} {σ : ab_St} {Q : Option Value → ab_St → Prop} : Ev d 127 159 [l0, l1, l2, l3, l4, l5] [.int s0, .ref s1] σ Q = (ab_k s1 = 10 ∧ Ev d 127 162 [l0, l1, l2, l3, l4, l5] [] (ab_wI σ s1 (upd (σ.1 s1) 14 s0)) Q) := ev_Hc (c := ab_k s1 = 10) d127_159 rfl rfl rfl rfl rfl rfl rfl rfl
theorem d127_162 : decode (ab_C 127) 162 = .ok (.aload_n 0, 1) := by decide +kernel
theorem e127_162 {d : Nat} {l1 l2 l3 l4 l5 : Option Value} {x : Nat} {σ : ab_St} {Q : Option Value → ab_St → Prop} : Ev d 127 162 [some (.ref x), l1, l2, l3, l4, l5] [] σ Q = Ev d 127 163 [some (.ref x), l1, l2, l3, l4, l5] [.ref x] σ Q := ev_A1 d127_162 rfl
theorem d127_163 : decode (ab_C 127) 163 = .ok (.getfield 13, 3) := by decide +kernel
theorem e127_163 {d : Nat} {l0 l1 l2 l3 l4 l5 : Option Value} {s0 : Nat} {σ : ab_St} {Q : Option Value → ab_St → Prop} : Ev d 127 163 [l0, l1, l2, l3, l4, l5] [.ref s0] σ Q = (ab_k s0 = 10 ∧ Ev d 127 166 [l0, l1, l2, l3, l4, l5] [.ref (ab_r s0 6)] σ Q) := ev_Hc (c := ab_k s0 = 10) d127_163 rfl rfl rfl rfl rfl rfl rfl rfl
theorem d127_166 : decode (ab_C 127) 166 = .ok (.iload_n 1, 1) := by decide +kernel
theorem e127_166 {d : Nat} {l0 l2 l3 l4 l5 : Option Value} {x : Int32} {s0 : Nat} {σ : ab_St} {Q : Option Value → ab_St → Prop} : Ev d 127 166 [l0, some (.int x), l2, l3, l4, l5] [.ref s0] σ Q = Ev d 127 167 [l0, some (.int x), l2, l3, l4, l5] [.int x, .ref s0] σ Q := ev_A1 d127_166 rfl
theorem d127_167 : decode (ab_C 127) 167 = .ok (.iaload, 1) := by decide +kernel
theorem e127_167 {d : Nat} {l0 l1 l2 l3 l4 l5 : Option Value} {s0 : Int32} {s1 : Nat} {σ : ab_St} {Q : Option Value → ab_St → Prop} : Ev d 127 167 [l0, l1, l2, l3, l4, l5] [.int s0, .ref s1] σ Q = ((ab_k s1 = 100 ∧ ab_in s0 (ab_n s1)) ∧ Ev d 127 168 [l0, l1, l2, l3, l4, l5] [.int (σ.1 s1 s0.toNatClampNeg)] σ Q) := ev_Hc (c := ab_k s1 = 100 ∧ ab_in s0 (ab_n s1)) d127_167 rfl rfl rfl rfl rfl rfl rfl rfl
theorem d127_168 : decode (ab_C 127) 168 = .ok (.ireturn, 1) := by decide +kernel
theorem e127_168 {d : Nat} {l0 l1 l2 l3 l4 l5 : Option Value} {s0 : Int32} {σ : ab_St} {Q : Option Value → ab_St → Prop} : Ev d 127 168 [l0, l1, l2, l3, l4, l5] [.int s0] σ Q = Q (some (.int s0)) σ := ev_E d127_168 rfl rfl rfl rfl rfl rfl rfl
/-! SaidLeastModel.go(I)I -/
theorem d128_0 : decode (ab_C 128) 0 = .ok (.aload_n 0, 1) := by decide +kernel
theorem e128_0 {d : Nat} {l1 : Option Value} {x : Nat} {σ : ab_St} {Q : Option Value → ab_St → Prop} : Ev d 128 0 [some (.ref x), l1] [] σ Q = Ev d 128 1 [some (.ref x), l1] [.ref x] σ Q := ev_A1 d128_0 rfl
theorem d128_1 : decode (ab_C 128) 1 = .ok (.iconst 0, 1) := by decide +kernel
theorem e128_1 {d : Nat} {l0 l1 : Option Value} {s0 : Nat} {σ : ab_St} {Q : Option Value → ab_St → Prop} : Ev d 128 1 [l0, l1] [.ref s0] σ Q = Ev d 128 2 [l0, l1] [.int 0, .ref s0] σ Q := ev_A1 d128_1 rfl
theorem d128_2 : decode (ab_C 128) 2 = .ok (.putfield 79, 3) := by decide +kernel
theorem e128_2 {d : Nat} {l0 l1 : Option Value} {s0 : Int32} {s1 : Nat} {σ : ab_St} {Q : Option Value → ab_St → Prop} : Ev d 128 2 [l0, l1] [.int s0, .ref s1] σ Q = (ab_k s1 = 10 ∧ Ev d 128 5 [l0, l1] [] (ab_wI σ s1 (upd (σ.1 s1) 0 s0)) Q) := ev_Hc (c := ab_k s1 = 10) d128_2 rfl rfl rfl rfl rfl rfl rfl rfl
theorem d128_5 : decode (ab_C 128) 5 = .ok (.aload_n 0, 1) := by decide +kernel
theorem e128_5 {d : Nat} {l1 : Option Value} {x : Nat} {σ : ab_St} {Q : Option Value → ab_St → Prop} : Ev d 128 5 [some (.ref x), l1] [] σ Q = Ev d 128 6 [some (.ref x), l1] [.ref x] σ Q := ev_A1 d128_5 rfl
theorem d128_6 : decode (ab_C 128) 6 = .ok (.iload_n 1, 1) := by decide +kernel
theorem e128_6 {d : Nat} {l0 : Option Value} {x : Int32} {s0 : Nat} {σ : ab_St} {Q : Option Value → ab_St → Prop} : Ev d 128 6 [l0, some (.int x)] [.ref s0] σ Q = Ev d 128 7 [l0, some (.int x)] [.int x, .ref s0] σ Q := ev_A1 d128_6 rfl
theorem d128_7 : decode (ab_C 128) 7 = .ok (.invokevirtual 167, 3) := by decide +kernel
theorem e128_7 {d : Nat} {l0 l1 : Option Value} {s0 : Int32} {s1 : Nat} {σ : ab_St} {Q : Option Value → ab_St → Prop} : Ev (d + 1) 128 7 [l0, l1] [.int s0, .ref s1] σ Q = (ab_k s1 = 10 ∧ Ev d 117 0 [some (.ref s1), some (.int s0)] [] σ (fun r σ2 => Ev (d + 1) 128 10 [l0, l1] (r.toList ++ []) σ2 Q)) := ev_KV (b := s1) (ls := [l0, l1]) (st := [.int s0, .ref s1]) (as := [.int s0]) (rest := []) d128_7 rfl rfl rfl (Nat.le_of_ble_eq_true rfl) (Nat.le_of_ble_eq_true rfl) (Nat.le_of_ble_eq_true rfl) rfl rfl rfl rfl rfl rfl rfl
theorem d128_10 : decode (ab_C 128) 10 = .ok (.ifCond .eq 5, 3) := by decide +kernel
theorem e128_10 {d : Nat} {l0 l1 : Option Value} {s0 : Int32} {σ : ab_St} {Q : Option Value → ab_St → Prop} : Ev d 128 10 [l0, l1] [.int s0] σ Q = if s0 = 0 then Ev d 128 15 [l0, l1] [] σ Q else Ev d 128 13 [l0, l1] [] σ Q := ev_B (c := s0 = 0) d128_10 rfl rfl rfl rfl rfl
theorem d128_13 : decode (ab_C 128) 13 = .ok (.iconst (-1), 1) := by decide +kernel
theorem e128_13 {d : Nat} {l0 l1 : Option Value} {σ : ab_St} {Q : Option Value → ab_St → Prop} : Ev d 128 13 [l0, l1] [] σ Q = Ev d 128 14 [l0, l1] [.int (-1)] σ Q := ev_A1 d128_13 rfl
theorem d128_14 : decode (ab_C 128) 14 = .ok (.ireturn, 1) := by decide +kernel
theorem e128_14 {d : Nat} {l0 l1 : Option Value} {s0 : Int32} {σ : ab_St} {Q : Option Value → ab_St → Prop} : Ev d 128 14 [l0, l1] [.int s0] σ Q = Q (some (.int s0)) σ := ev_E d128_14 rfl rfl rfl rfl rfl rfl rfl
theorem d128_15 : decode (ab_C 128) 15 = .ok (.aload_n 0, 1) := by decide +kernel
theorem e128_15 {d : Nat} {l1 : Option Value} {x : Nat} {σ : ab_St} {Q : Option Value → ab_St → Prop} : Ev d 128 15 [some (.ref x), l1] [] σ Q = Ev d 128 16 [some (.ref x), l1] [.ref x] σ Q := ev_A1 d128_15 rfl
theorem d128_16 : decode (ab_C 128) 16 = .ok (.getfield 138, 3) := by decide +kernel
theorem e128_16 {d : Nat} {l0 l1 : Option Value} {s0 : Nat} {σ : ab_St} {Q : Option Value → ab_St → Prop} : Ev d 128 16 [l0, l1] [.ref s0] σ Q = (ab_k s0 = 10 ∧ Ev d 128 19 [l0, l1] [.int (σ.1 s0 7)] σ Q) := ev_Hc (c := ab_k s0 = 10) d128_16 rfl rfl rfl rfl rfl rfl rfl rfl
theorem d128_19 : decode (ab_C 128) 19 = .ok (.iload_n 1, 1) := by decide +kernel
theorem e128_19 {d : Nat} {l0 : Option Value} {x : Int32} {s0 : Int32} {σ : ab_St} {Q : Option Value → ab_St → Prop} : Ev d 128 19 [l0, some (.int x)] [.int s0] σ Q = Ev d 128 20 [l0, some (.int x)] [.int x, .int s0] σ Q := ev_A1 d128_19 rfl
theorem d128_20 : decode (ab_C 128) 20 = .ok (.invokestatic 154, 3) := by decide +kernel
theorem e128_20 {d : Nat} {l0 l1 : Option Value} {s0 : Int32} {s1 : Int32} {σ : ab_St} {Q : Option Value → ab_St → Prop} : Ev (d + 1) 128 20 [l0, l1] [.int s0, .int s1] σ Q = Ev d 113 0 [some (.int s1), some (.int s0)] [] σ (fun r σ2 => Ev (d + 1) 128 23 [l0, l1] (r.toList ++ []) σ2 Q) := ev_K0 (y := 113) (ls := [l0, l1]) (st := [.int s0, .int s1]) (as := [.int s1, .int s0]) (rest := []) d128_20 rfl rfl rfl rfl rfl rfl rfl rfl
theorem d128_23 : decode (ab_C 128) 23 = .ok (.ifCond .ne 6, 3) := by decide +kernel
theorem e128_23 {d : Nat} {l0 l1 : Option Value} {s0 : Int32} {σ : ab_St} {Q : Option Value → ab_St → Prop} : Ev d 128 23 [l0, l1] [.int s0] σ Q = if s0 = 0 then Ev d 128 26 [l0, l1] [] σ Q else Ev d 128 29 [l0, l1] [] σ Q := ev_B (c := s0 = 0) d128_23 rfl rfl rfl rfl rfl
theorem d128_26 : decode (ab_C 128) 26 = .ok (.bipush (-3), 2) := by decide +kernel
theorem e128_26 {d : Nat} {l0 l1 : Option Value} {σ : ab_St} {Q : Option Value → ab_St → Prop} : Ev d 128 26 [l0, l1] [] σ Q = Ev d 128 28 [l0, l1] [.int (-3)] σ Q := ev_A1 d128_26 rfl
theorem d128_28 : decode (ab_C 128) 28 = .ok (.ireturn, 1) := by decide +kernel
theorem e128_28 {d : Nat} {l0 l1 : Option Value} {s0 : Int32} {σ : ab_St} {Q : Option Value → ab_St → Prop} : Ev d 128 28 [l0, l1] [.int s0] σ Q = Q (some (.int s0)) σ := ev_E d128_28 rfl rfl rfl rfl rfl rfl rfl
theorem d128_29 : decode (ab_C 128) 29 = .ok (.aload_n 0, 1) := by decide +kernel
theorem e128_29 {d : Nat} {l1 : Option Value} {x : Nat} {σ : ab_St} {Q : Option Value → ab_St → Prop} : Ev d 128 29 [some (.ref x), l1] [] σ Q = Ev d 128 30 [some (.ref x), l1] [.ref x] σ Q := ev_A1 d128_29 rfl
theorem d128_30 : decode (ab_C 128) 30 = .ok (.invokevirtual 182, 3) := by decide +kernel
theorem e128_30 {d : Nat} {l0 l1 : Option Value} {s0 : Nat} {σ : ab_St} {Q : Option Value → ab_St → Prop} : Ev (d + 1) 128 30 [l0, l1] [.ref s0] σ Q = (ab_k s0 = 10 ∧ Ev d 124 0 [some (.ref s0), none] [] σ (fun r σ2 => Ev (d + 1) 128 33 [l0, l1] (r.toList ++ []) σ2 Q)) := ev_KV (b := s0) (ls := [l0, l1]) (st := [.ref s0]) (as := []) (rest := []) d128_30 rfl rfl rfl (Nat.le_of_ble_eq_true rfl) (Nat.le_of_ble_eq_true rfl) (Nat.le_of_ble_eq_true rfl) rfl rfl rfl rfl rfl rfl rfl
theorem d128_33 : decode (ab_C 128) 33 = .ok (.aload_n 0, 1) := by decide +kernel
theorem e128_33 {d : Nat} {l1 : Option Value} {x : Nat} {σ : ab_St} {Q : Option Value → ab_St → Prop} : Ev d 128 33 [some (.ref x), l1] [] σ Q = Ev d 128 34 [some (.ref x), l1] [.ref x] σ Q := ev_A1 d128_33 rfl
theorem d128_34 : decode (ab_C 128) 34 = .ok (.dup, 1) := by decide +kernel
theorem e128_34 {d : Nat} {l0 l1 : Option Value} {s0 : Nat} {σ : ab_St} {Q : Option Value → ab_St → Prop} : Ev d 128 34 [l0, l1] [.ref s0] σ Q = Ev d 128 35 [l0, l1] [.ref s0, .ref s0] σ Q := ev_A1 d128_34 rfl
theorem d128_35 : decode (ab_C 128) 35 = .ok (.getfield 138, 3) := by decide +kernel
theorem e128_35 {d : Nat} {l0 l1 : Option Value} {s0 : Nat} {s1 : Nat} {σ : ab_St} {Q : Option Value → ab_St → Prop} : Ev d 128 35 [l0, l1] [.ref s0, .ref s1] σ Q = (ab_k s0 = 10 ∧ Ev d 128 38 [l0, l1] [.int (σ.1 s0 7), .ref s1] σ Q) := ev_Hc (c := ab_k s0 = 10) d128_35 rfl rfl rfl rfl rfl rfl rfl rfl
theorem d128_38 : decode (ab_C 128) 38 = .ok (.iconst 1, 1) := by decide +kernel
theorem e128_38 {d : Nat} {l0 l1 : Option Value} {s0 : Int32} {s1 : Nat} {σ : ab_St} {Q : Option Value → ab_St → Prop} : Ev d 128 38 [l0, l1] [.int s0, .ref s1] σ Q = Ev d 128 39 [l0, l1] [.int 1, .int s0, .ref s1] σ Q := ev_A1 d128_38 rfl
theorem d128_39 : decode (ab_C 128) 39 = .ok (.iload_n 1, 1) := by decide +kernel
theorem e128_39 {d : Nat} {l0 : Option Value} {x : Int32} {s0 : Int32} {s1 : Int32} {s2 : Nat} {σ : ab_St} {Q : Option Value → ab_St → Prop} : Ev d 128 39 [l0, some (.int x)] [.int s0, .int s1, .ref s2] σ Q = Ev d 128 40 [l0, some (.int x)] [.int x, .int s0, .int s1, .ref s2] σ Q := ev_A1 d128_39 rfl
theorem d128_40 : decode (ab_C 128) 40 = .ok (.ishl, 1) := by decide +kernel
theorem e128_40 {d : Nat} {l0 l1 : Option Value} {s0 : Int32} {s1 : Int32} {s2 : Int32} {s3 : Nat} {σ : ab_St} {Q : Option Value → ab_St → Prop} : Ev d 128 40 [l0, l1] [.int s0, .int s1, .int s2, .ref s3] σ Q = Ev d 128 41 [l0, l1] [.int (s1 <<< (s0 &&& 31)), .int s2, .ref s3] σ Q := ev_A2 d128_40 rfl rfl
theorem d128_41 : decode (ab_C 128) 41 = .ok (.iconst (-1), 1) := by decide +kernel
theorem e128_41 {d : Nat} {l0 l1 : Option Value} {s0 : Int32} {s1 : Int32} {s2 : Nat} {σ : ab_St} {Q : Option Value → ab_St → Prop} : Ev d 128 41 [l0, l1] [.int s0, .int s1, .ref s2] σ Q = Ev d 128 42 [l0, l1] [.int (-1), .int s0, .int s1, .ref s2] σ Q := ev_A1 d128_41 rfl
theorem d128_42 : decode (ab_C 128) 42 = .ok (.ixor, 1) := by decide +kernel
theorem e128_42 {d : Nat} {l0 l1 : Option Value} {s0 : Int32} {s1 : Int32} {s2 : Int32} {s3 : Nat} {σ : ab_St} {Q : Option Value → ab_St → Prop} : Ev d 128 42 [l0, l1] [.int s0, .int s1, .int s2, .ref s3] σ Q = Ev d 128 43 [l0, l1] [.int (s1 ^^^ s0), .int s2, .ref s3] σ Q := ev_A2 d128_42 rfl rfl
theorem d128_43 : decode (ab_C 128) 43 = .ok (.iand, 1) := by decide +kernel
theorem e128_43 {d : Nat} {l0 l1 : Option Value} {s0 : Int32} {s1 : Int32} {s2 : Nat} {σ : ab_St} {Q : Option Value → ab_St → Prop} : Ev d 128 43 [l0, l1] [.int s0, .int s1, .ref s2] σ Q = Ev d 128 44 [l0, l1] [.int (s1 &&& s0), .ref s2] σ Q := ev_A2 d128_43 rfl rfl
theorem d128_44 : decode (ab_C 128) 44 = .ok (.putfield 138, 3) := by decide +kernel
theorem e128_44 {d : Nat} {l0 l1 : Option Value} {s0 : Int32} {s1 : Nat} {σ : ab_St} {Q : Option Value → ab_St → Prop} : Ev d 128 44 [l0, l1] [.int s0, .ref s1] σ Q = (ab_k s1 = 10 ∧ Ev d 128 47 [l0, l1] [] (ab_wI σ s1 (upd (σ.1 s1) 7 s0)) Q) := ev_Hc (c := ab_k s1 = 10) d128_44 rfl rfl rfl rfl rfl rfl rfl rfl
theorem d128_47 : decode (ab_C 128) 47 = .ok (.aload_n 0, 1) := by decide +kernel
theorem e128_47 {d : Nat} {l1 : Option Value} {x : Nat} {σ : ab_St} {Q : Option Value → ab_St → Prop} : Ev d 128 47 [some (.ref x), l1] [] σ Q = Ev d 128 48 [some (.ref x), l1] [.ref x] σ Q := ev_A1 d128_47 rfl
theorem d128_48 : decode (ab_C 128) 48 = .ok (.bipush (-9), 2) := by decide +kernel
theorem e128_48 {d : Nat} {l0 l1 : Option Value} {s0 : Nat} {σ : ab_St} {Q : Option Value → ab_St → Prop} : Ev d 128 48 [l0, l1] [.ref s0] σ Q = Ev d 128 50 [l0, l1] [.int (-9), .ref s0] σ Q := ev_A1 d128_48 rfl
theorem d128_50 : decode (ab_C 128) 50 = .ok (.putfield 28, 3) := by decide +kernel
theorem e128_50 {d : Nat} {l0 l1 : Option Value} {s0 : Int32} {s1 : Nat} {σ : ab_St} {Q : Option Value → ab_St → Prop} : Ev d 128 50 [l0, l1] [.int s0, .ref s1] σ Q = (ab_k s1 = 10 ∧ Ev d 128 53 [l0, l1] [] (ab_wI σ s1 (upd (σ.1 s1) 14 s0)) Q) := ev_Hc (c := ab_k s1 = 10) d128_50 rfl rfl rfl rfl rfl rfl rfl rfl
theorem d128_53 : decode (ab_C 128) 53 = .ok (.aload_n 0, 1) := by decide +kernel
theorem e128_53 {d : Nat} {l1 : Option Value} {x : Nat} {σ : ab_St} {Q : Option Value → ab_St → Prop} : Ev d 128 53 [some (.ref x), l1] [] σ Q = Ev d 128 54 [some (.ref x), l1] [.ref x] σ Q := ev_A1 d128_53 rfl
theorem d128_54 : decode (ab_C 128) 54 = .ok (.getfield 138, 3) := by decide +kernel
theorem e128_54 {d : Nat} {l0 l1 : Option Value} {s0 : Nat} {σ : ab_St} {Q : Option Value → ab_St → Prop} : Ev d 128 54 [l0, l1] [.ref s0] σ Q = (ab_k s0 = 10 ∧ Ev d 128 57 [l0, l1] [.int (σ.1 s0 7)] σ Q) := ev_Hc (c := ab_k s0 = 10) d128_54 rfl rfl rfl rfl rfl rfl rfl rfl
theorem d128_57 : decode (ab_C 128) 57 = .ok (.invokestatic 187, 3) := by decide +kernel
theorem e128_57 {d : Nat} {l0 l1 : Option Value} {s0 : Int32} {σ : ab_St} {Q : Option Value → ab_St → Prop} : Ev (d + 1) 128 57 [l0, l1] [.int s0] σ Q = Ev d 129 0 [some (.int s0), none, none] [] σ (fun r σ2 => Ev (d + 1) 128 60 [l0, l1] (r.toList ++ []) σ2 Q) := ev_K0 (y := 129) (ls := [l0, l1]) (st := [.int s0]) (as := [.int s0]) (rest := []) d128_57 rfl rfl rfl rfl rfl rfl rfl rfl
theorem d128_60 : decode (ab_C 128) 60 = .ok (.ireturn, 1) := by decide +kernel
theorem e128_60 {d : Nat} {l0 l1 : Option Value} {s0 : Int32} {σ : ab_St} {Q : Option Value → ab_St → Prop} : Ev d 128 60 [l0, l1] [.int s0] σ Q = Q (some (.int s0)) σ := ev_E d128_60 rfl rfl rfl rfl rfl rfl rfl
/-! SaidLeastModel.many(I)I -/
theorem d129_0 : decode (ab_C 129) 0 = .ok (.iconst 0, 1) := by decide +kernel
theorem e129_0 {d : Nat} {l0 l1 l2 : Option Value} {σ : ab_St} {Q : Option Value → ab_St → Prop} : Ev d 129 0 [l0, l1, l2] [] σ Q = Ev d 129 1 [l0, l1, l2] [.int 0] σ Q := ev_A1 d129_0 rfl
theorem d129_1 : decode (ab_C 129) 1 = .ok (.istore_n 1, 1) := by decide +kernel
theorem e129_1 {d : Nat} {l0 l1 l2 : Option Value} {s0 : Int32} {σ : ab_St} {Q : Option Value → ab_St → Prop} : Ev d 129 1 [l0, l1, l2] [.int s0] σ Q = Ev d 129 2 [l0, some (.int s0), l2] [] σ Q := ev_S d129_1 rfl rfl rfl rfl
theorem d129_2 : decode (ab_C 129) 2 = .ok (.iconst 0, 1) := by decide +kernel
theorem e129_2 {d : Nat} {l0 l1 l2 : Option Value} {σ : ab_St} {Q : Option Value → ab_St → Prop} : Ev d 129 2 [l0, l1, l2] [] σ Q = Ev d 129 3 [l0, l1, l2] [.int 0] σ Q := ev_A1 d129_2 rfl
theorem d129_3 : decode (ab_C 129) 3 = .ok (.istore_n 2, 1) := by decide +kernel
theorem e129_3 {d : Nat} {l0 l1 l2 : Option Value} {s0 : Int32} {σ : ab_St} {Q : Option Value → ab_St → Prop} : Ev d 129 3 [l0, l1, l2] [.int s0] σ Q = Ev d 129 4 [l0, l1, some (.int s0)] [] σ Q := ev_S d129_3 rfl rfl rfl rfl
theorem d129_4 : decode (ab_C 129) 4 = .ok (.iload_n 2, 1) := by decide +kernel
theorem e129_4 {d : Nat} {l0 l1 : Option Value} {x : Int32} {σ : ab_St} {Q : Option Value → ab_St → Prop} : Ev d 129 4 [l0, l1, some (.int x)] [] σ Q = Ev d 129 5 [l0, l1, some (.int x)] [.int x] σ Q := ev_A1 d129_4 rfl
theorem d129_5 : decode (ab_C 129) 5 = .ok (.bipush 8, 2) := by decide +kernel
theorem e129_5 {d : Nat} {l0 l1 l2 : Option Value} {s0 : Int32} {σ : ab_St} {Q : Option Value → ab_St → Prop} : Ev d 129 5 [l0, l1, l2] [.int s0] σ Q = Ev d 129 7 [l0, l1, l2] [.int 8, .int s0] σ Q := ev_A1 d129_5 rfl
theorem d129_7 : decode (ab_C 129) 7 = .ok (.if_icmp .ge 17, 3) := by decide +kernel
theorem e129_7 {d : Nat} {l0 l1 l2 : Option Value} {s0 : Int32} {s1 : Int32} {σ : ab_St} {Q : Option Value → ab_St → Prop} : Ev d 129 7 [l0, l1, l2] [.int s0, .int s1] σ Q = if s0 ≤ s1 then Ev d 129 24 [l0, l1, l2] [] σ Q else Ev d 129 10 [l0, l1, l2] [] σ Q := ev_B (c := s0 ≤ s1) d129_7 rfl rfl rfl rfl rfl
theorem d129_10 : decode (ab_C 129) 10 = .ok (.iload_n 1, 1) := by decide +kernel
theorem e129_10 {d : Nat} {l0 l2 : Option Value} {x : Int32} {σ : ab_St} {Q : Option Value → ab_St → Prop} : Ev d 129 10 [l0, some (.int x), l2] [] σ Q = Ev d 129 11 [l0, some (.int x), l2] [.int x] σ Q := ev_A1 d129_10 rfl
theorem d129_11 : decode (ab_C 129) 11 = .ok (.iload_n 0, 1) := by decide +kernel
theorem e129_11 {d : Nat} {l1 l2 : Option Value} {x : Int32} {s0 : Int32} {σ : ab_St} {Q : Option Value → ab_St → Prop} : Ev d 129 11 [some (.int x), l1, l2] [.int s0] σ Q = Ev d 129 12 [some (.int x), l1, l2] [.int x, .int s0] σ Q := ev_A1 d129_11 rfl
theorem d129_12 : decode (ab_C 129) 12 = .ok (.iload_n 2, 1) := by decide +kernel
theorem e129_12 {d : Nat} {l0 l1 : Option Value} {x : Int32} {s0 : Int32} {s1 : Int32} {σ : ab_St} {Q : Option Value → ab_St → Prop} : Ev d 129 12 [l0, l1, some (.int x)] [.int s0, .int s1] σ Q = Ev d 129 13 [l0, l1, some (.int x)] [.int x, .int s0, .int s1] σ Q := ev_A1 d129_12 rfl
theorem d129_13 : decode (ab_C 129) 13 = .ok (.ishr, 1) := by decide +kernel
theorem e129_13 {d : Nat} {l0 l1 l2 : Option Value} {s0 : Int32} {s1 : Int32} {s2 : Int32} {σ : ab_St} {Q : Option Value → ab_St → Prop} : Ev d 129 13 [l0, l1, l2] [.int s0, .int s1, .int s2] σ Q = Ev d 129 14 [l0, l1, l2] [.int (s1 >>> (s0 &&& 31)), .int s2] σ Q := ev_A2 d129_13 rfl rfl
theorem d129_14 : decode (ab_C 129) 14 = .ok (.iconst 1, 1) := by decide +kernel
theorem e129_14 {d : Nat} {l0 l1 l2 : Option Value} {s0 : Int32} {s1 : Int32} {σ : ab_St} {Q : Option Value → ab_St → Prop} : Ev d 129 14 [l0, l1, l2] [.int s0, .int s1] σ Q = Ev d 129 15 [l0, l1, l2] [.int 1, .int s0, .int s1] σ Q := ev_A1 d129_14 rfl
theorem d129_15 : decode (ab_C 129) 15 = .ok (.iand, 1) := by decide +kernel
theorem e129_15 {d : Nat} {l0 l1 l2 : Option Value} {s0 : Int32} {s1 : Int32} {s2 : Int32} {σ : ab_St} {Q : Option Value → ab_St → Prop} : Ev d 129 15 [l0, l1, l2] [.int s0, .int s1, .int s2] σ Q = Ev d 129 16 [l0, l1, l2] [.int (s1 &&& s0), .int s2] σ Q := ev_A2 d129_15 rfl rfl
theorem d129_16 : decode (ab_C 129) 16 = .ok (.iadd, 1) := by decide +kernel
theorem e129_16 {d : Nat} {l0 l1 l2 : Option Value} {s0 : Int32} {s1 : Int32} {σ : ab_St} {Q : Option Value → ab_St → Prop} : Ev d 129 16 [l0, l1, l2] [.int s0, .int s1] σ Q = Ev d 129 17 [l0, l1, l2] [.int (s1 + s0)] σ Q := ev_A2 d129_16 rfl rfl
theorem d129_17 : decode (ab_C 129) 17 = .ok (.istore_n 1, 1) := by decide +kernel
theorem e129_17 {d : Nat} {l0 l1 l2 : Option Value} {s0 : Int32} {σ : ab_St} {Q : Option Value → ab_St → Prop} : Ev d 129 17 [l0, l1, l2] [.int s0] σ Q = Ev d 129 18 [l0, some (.int s0), l2] [] σ Q := ev_S d129_17 rfl rfl rfl rfl
theorem d129_18 : decode (ab_C 129) 18 = .ok (.iinc 2 1, 3) := by decide +kernel
theorem e129_18 {d : Nat} {l0 l1 : Option Value} {x : Int32} {σ : ab_St} {Q : Option Value → ab_St → Prop} : Ev d 129 18 [l0, l1, some (.int x)] [] σ Q = Ev d 129 21 [l0, l1, some (.int (x + 1))] [] σ Q := ev_S d129_18 rfl rfl rfl rfl
theorem d129_21 : decode (ab_C 129) 21 = .ok (.goto (-17), 3) := by decide +kernel
theorem e129_21 {d : Nat} {l0 l1 l2 : Option Value} {σ : ab_St} {Q : Option Value → ab_St → Prop} : Ev d 129 21 [l0, l1, l2] [] σ Q = Ev d 129 4 [l0, l1, l2] [] σ Q := ev_J d129_21 rfl rfl rfl rfl rfl
theorem d129_24 : decode (ab_C 129) 24 = .ok (.iload_n 1, 1) := by decide +kernel
theorem e129_24 {d : Nat} {l0 l2 : Option Value} {x : Int32} {σ : ab_St} {Q : Option Value → ab_St → Prop} : Ev d 129 24 [l0, some (.int x), l2] [] σ Q = Ev d 129 25 [l0, some (.int x), l2] [.int x] σ Q := ev_A1 d129_24 rfl
theorem d129_25 : decode (ab_C 129) 25 = .ok (.ireturn, 1) := by decide +kernel
theorem e129_25 {d : Nat} {l0 l1 l2 : Option Value} {s0 : Int32} {σ : ab_St} {Q : Option Value → ab_St → Prop} : Ev d 129 25 [l0, l1, l2] [.int s0] σ Q = Q (some (.int s0)) σ := ev_E d129_25 rfl rfl rfl rfl rfl rfl rfl
/-! SaidLeastModel.undo()I -/
theorem d130_0 : decode (ab_C 130) 0 = .ok (.aload_n 0, 1) := by decide +kernel
theorem e130_0 {d : Nat} {x : Nat} {σ : ab_St} {Q : Option Value → ab_St → Prop} : Ev d 130 0 [some (.ref x)] [] σ Q = Ev d 130 1 [some (.ref x)] [.ref x] σ Q := ev_A1 d130_0 rfl
theorem d130_1 : decode (ab_C 130) 1 = .ok (.iconst 0, 1) := by decide +kernel
theorem e130_1 {d : Nat} {l0 : Option Value} {s0 : Nat} {σ : ab_St} {Q : Option Value → ab_St → Prop} : Ev d 130 1 [l0] [.ref s0] σ Q = Ev d 130 2 [l0] [.int 0, .ref s0] σ Q := ev_A1 d130_1 rfl
theorem d130_2 : decode (ab_C 130) 2 = .ok (.putfield 79, 3) := by decide +kernel
theorem e130_2 {d : Nat} {l0 : Option Value} {s0 : Int32} {s1 : Nat} {σ : ab_St} {Q : Option Value → ab_St → Prop} : Ev d 130 2 [l0] [.int s0, .ref s1] σ Q = (ab_k s1 = 10 ∧ Ev d 130 5 [l0] [] (ab_wI σ s1 (upd (σ.1 s1) 0 s0)) Q) := ev_Hc (c := ab_k s1 = 10) d130_2 rfl rfl rfl rfl rfl rfl rfl rfl
theorem d130_5 : decode (ab_C 130) 5 = .ok (.aload_n 0, 1) := by decide +kernel
theorem e130_5 {d : Nat} {x : Nat} {σ : ab_St} {Q : Option Value → ab_St → Prop} : Ev d 130 5 [some (.ref x)] [] σ Q = Ev d 130 6 [some (.ref x)] [.ref x] σ Q := ev_A1 d130_5 rfl
theorem d130_6 : decode (ab_C 130) 6 = .ok (.getfield 144, 3) := by decide +kernel
theorem e130_6 {d : Nat} {l0 : Option Value} {s0 : Nat} {σ : ab_St} {Q : Option Value → ab_St → Prop} : Ev d 130 6 [l0] [.ref s0] σ Q = (ab_k s0 = 10 ∧ Ev d 130 9 [l0] [.int (σ.1 s0 25)] σ Q) := ev_Hc (c := ab_k s0 = 10) d130_6 rfl rfl rfl rfl rfl rfl rfl rfl
theorem d130_9 : decode (ab_C 130) 9 = .ok (.ifCond .ne 6, 3) := by decide +kernel
theorem e130_9 {d : Nat} {l0 : Option Value} {s0 : Int32} {σ : ab_St} {Q : Option Value → ab_St → Prop} : Ev d 130 9 [l0] [.int s0] σ Q = if s0 = 0 then Ev d 130 12 [l0] [] σ Q else Ev d 130 15 [l0] [] σ Q := ev_B (c := s0 = 0) d130_9 rfl rfl rfl rfl rfl
theorem d130_12 : decode (ab_C 130) 12 = .ok (.bipush (-3), 2) := by decide +kernel
theorem e130_12 {d : Nat} {l0 : Option Value} {σ : ab_St} {Q : Option Value → ab_St → Prop} : Ev d 130 12 [l0] [] σ Q = Ev d 130 14 [l0] [.int (-3)] σ Q := ev_A1 d130_12 rfl
theorem d130_14 : decode (ab_C 130) 14 = .ok (.ireturn, 1) := by decide +kernel
theorem e130_14 {d : Nat} {l0 : Option Value} {s0 : Int32} {σ : ab_St} {Q : Option Value → ab_St → Prop} : Ev d 130 14 [l0] [.int s0] σ Q = Q (some (.int s0)) σ := ev_E d130_14 rfl rfl rfl rfl rfl rfl rfl
theorem d130_15 : decode (ab_C 130) 15 = .ok (.aload_n 0, 1) := by decide +kernel
theorem e130_15 {d : Nat} {x : Nat} {σ : ab_St} {Q : Option Value → ab_St → Prop} : Ev d 130 15 [some (.ref x)] [] σ Q = Ev d 130 16 [some (.ref x)] [.ref x] σ Q := ev_A1 d130_15 rfl
theorem d130_16 : decode (ab_C 130) 16 = .ok (.dup, 1) := by decide +kernel
theorem e130_16 {d : Nat} {l0 : Option Value} {s0 : Nat} {σ : ab_St} {Q : Option Value → ab_St → Prop} : Ev d 130 16 [l0] [.ref s0] σ Q = Ev d 130 17 [l0] [.ref s0, .ref s0] σ Q := ev_A1 d130_16 rfl
theorem d130_17 : decode (ab_C 130) 17 = .ok (.getfield 144, 3) := by decide +kernel
theorem e130_17 {d : Nat} {l0 : Option Value} {s0 : Nat} {s1 : Nat} {σ : ab_St} {Q : Option Value → ab_St → Prop} : Ev d 130 17 [l0] [.ref s0, .ref s1] σ Q = (ab_k s0 = 10 ∧ Ev d 130 20 [l0] [.int (σ.1 s0 25), .ref s1] σ Q) := ev_Hc (c := ab_k s0 = 10) d130_17 rfl rfl rfl rfl rfl rfl rfl rfl
theorem d130_20 : decode (ab_C 130) 20 = .ok (.iconst 1, 1) := by decide +kernel
theorem e130_20 {d : Nat} {l0 : Option Value} {s0 : Int32} {s1 : Nat} {σ : ab_St} {Q : Option Value → ab_St → Prop} : Ev d 130 20 [l0] [.int s0, .ref s1] σ Q = Ev d 130 21 [l0] [.int 1, .int s0, .ref s1] σ Q := ev_A1 d130_20 rfl
theorem d130_21 : decode (ab_C 130) 21 = .ok (.isub, 1) := by decide +kernel
theorem e130_21 {d : Nat} {l0 : Option Value} {s0 : Int32} {s1 : Int32} {s2 : Nat} {σ : ab_St} {Q : Option Value → ab_St → Prop} : Ev d 130 21 [l0] [.int s0, .int s1, .ref s2] σ Q = Ev d 130 22 [l0] [.int (s1 - s0), .ref s2] σ Q := ev_A2 d130_21 rfl rfl
theorem d130_22 : decode (ab_C 130) 22 = .ok (.putfield 144, 3) := by decide +kernel
theorem e130_22 {d : Nat} {l0 : Option Value} {s0 : Int32} {s1 : Nat} {σ : ab_St} {Q : Option Value → ab_St → Prop} : Ev d 130 22 [l0] [.int s0, .ref s1] σ Q = (ab_k s1 = 10 ∧ Ev d 130 25 [l0] [] (ab_wI σ s1 (upd (σ.1 s1) 25 s0)) Q) := ev_Hc (c := ab_k s1 = 10) d130_22 rfl rfl rfl rfl rfl rfl rfl rfl
theorem d130_25 : decode (ab_C 130) 25 = .ok (.aload_n 0, 1) := by decide +kernel
theorem e130_25 {d : Nat} {x : Nat} {σ : ab_St} {Q : Option Value → ab_St → Prop} : Ev d 130 25 [some (.ref x)] [] σ Q = Ev d 130 26 [some (.ref x)] [.ref x] σ Q := ev_A1 d130_25 rfl
theorem d130_26 : decode (ab_C 130) 26 = .ok (.aload_n 0, 1) := by decide +kernel
theorem e130_26 {d : Nat} {x : Nat} {s0 : Nat} {σ : ab_St} {Q : Option Value → ab_St → Prop} : Ev d 130 26 [some (.ref x)] [.ref s0] σ Q = Ev d 130 27 [some (.ref x)] [.ref x, .ref s0] σ Q := ev_A1 d130_26 rfl
theorem d130_27 : decode (ab_C 130) 27 = .ok (.getfield 47, 3) := by decide +kernel
theorem e130_27 {d : Nat} {l0 : Option Value} {s0 : Nat} {s1 : Nat} {σ : ab_St} {Q : Option Value → ab_St → Prop} : Ev d 130 27 [l0] [.ref s0, .ref s1] σ Q = (ab_k s0 = 10 ∧ Ev d 130 30 [l0] [.ref (ab_r s0 24), .ref s1] σ Q) := ev_Hc (c := ab_k s0 = 10) d130_27 rfl rfl rfl rfl rfl rfl rfl rfl
theorem d130_30 : decode (ab_C 130) 30 = .ok (.bipush 16, 2) := by decide +kernel
theorem e130_30 {d : Nat} {l0 : Option Value} {s0 : Nat} {s1 : Nat} {σ : ab_St} {Q : Option Value → ab_St → Prop} : Ev d 130 30 [l0] [.ref s0, .ref s1] σ Q = Ev d 130 32 [l0] [.int 16, .ref s0, .ref s1] σ Q := ev_A1 d130_30 rfl
theorem d130_32 : decode (ab_C 130) 32 = .ok (.aload_n 0, 1) := by decide +kernel
theorem e130_32 {d : Nat} {x : Nat} {s0 : Int32} {s1 : Nat} {s2 : Nat} {σ : ab_St} {Q : Option Value → ab_St → Prop} : Ev d 130 32 [some (.ref x)] [.int s0, .ref s1, .ref s2] σ Q = Ev d 130 33 [some (.ref x)] [.ref x, .int s0, .ref s1, .ref s2] σ Q := ev_A1 d130_32 rfl
theorem d130_33 : decode (ab_C 130) 33 = .ok (.getfield 144, 3) := by decide +kernel
theorem e130_33 {d : Nat} {l0 : Option Value} {s0 : Nat} {s1 : Int32} {s2 : Nat} {s3 : Nat} {σ : ab_St} {Q : Option Value → ab_St → Prop} : Ev d 130 33 [l0] [.ref s0, .int s1, .ref s2, .ref s3] σ Q = (ab_k s0 = 10 ∧ Ev d 130 36 [l0] [.int (σ.1 s0 25), .int s1, .ref s2, .ref s3] σ Q) := ev_Hc (c := ab_k s0 = 10) d130_33 rfl rfl rfl rfl rfl rfl rfl rfl
theorem d130_36 : decode (ab_C 130) 36 = .ok (.imul, 1) := by decide +kernel
theorem e130_36 {d : Nat} {l0 : Option Value} {s0 : Int32} {s1 : Int32} {s2 : Nat} {s3 : Nat} {σ : ab_St} {Q : Option Value → ab_St → Prop} : Ev d 130 36 [l0] [.int s0, .int s1, .ref s2, .ref s3] σ Q = Ev d 130 37 [l0] [.int (s1 * s0), .ref s2, .ref s3] σ Q := ev_A2 d130_36 rfl rfl
theorem d130_37 : decode (ab_C 130) 37 = .ok (.invokevirtual 191, 3) := by decide +kernel
theorem e130_37 {d : Nat} {l0 : Option Value} {s0 : Int32} {s1 : Nat} {s2 : Nat} {σ : ab_St} {Q : Option Value → ab_St → Prop} : Ev (d + 1) 130 37 [l0] [.int s0, .ref s1, .ref s2] σ Q = (ab_k s2 = 10 ∧ Ev d 131 0 [some (.ref s2), some (.ref s1), some (.int s0), none] [] σ (fun r σ2 => Ev (d + 1) 130 40 [l0] (r.toList ++ []) σ2 Q)) := ev_KV (b := s2) (ls := [l0]) (st := [.int s0, .ref s1, .ref s2]) (as := [.ref s1, .int s0]) (rest := []) d130_37 rfl rfl rfl (Nat.le_of_ble_eq_true rfl) (Nat.le_of_ble_eq_true rfl) (Nat.le_of_ble_eq_true rfl) rfl rfl rfl rfl rfl rfl rfl
theorem d130_40 : decode (ab_C 130) 40 = .ok (.aload_n 0, 1) := by decide +kernel
theorem e130_40 {d : Nat} {x : Nat} {σ : ab_St} {Q : Option Value → ab_St → Prop} : Ev d 130 40 [some (.ref x)] [] σ Q = Ev d 130 41 [some (.ref x)] [.ref x] σ Q := ev_A1 d130_40 rfl
theorem d130_41 : decode (ab_C 130) 41 = .ok (.getfield 144, 3) := by decide +kernel
theorem e130_41 {d : Nat} {l0 : Option Value} {s0 : Nat} {σ : ab_St} {Q : Option Value → ab_St → Prop} : Ev d 130 41 [l0] [.ref s0] σ Q = (ab_k s0 = 10 ∧ Ev d 130 44 [l0] [.int (σ.1 s0 25)] σ Q) := ev_Hc (c := ab_k s0 = 10) d130_41 rfl rfl rfl rfl rfl rfl rfl rfl
theorem d130_44 : decode (ab_C 130) 44 = .ok (.ireturn, 1) := by decide +kernel
theorem e130_44 {d : Nat} {l0 : Option Value} {s0 : Int32} {σ : ab_St} {Q : Option Value → ab_St → Prop} : Ev d 130 44 [l0] [.int s0] σ Q = Q (some (.int s0)) σ := ev_E d130_44 rfl rfl rfl rfl rfl rfl rfl
/-! SaidLeastModel.takePage([II)V -/
theorem d131_0 : decode (ab_C 131) 0 = .ok (.iconst 0, 1) := by decide +kernel
theorem e131_0 {d : Nat} {l0 l1 l2 l3 : Option Value} {σ : ab_St} {Q : Option Value → ab_St → Prop} : Ev d 131 0 [l0, l1, l2, l3] [] σ Q = Ev d 131 1 [l0, l1, l2, l3] [.int 0] σ Q := ev_A1 d131_0 rfl
theorem d131_1 : decode (ab_C 131) 1 = .ok (.istore_n 3, 1) := by decide +kernel
theorem e131_1 {d : Nat} {l0 l1 l2 l3 : Option Value} {s0 : Int32} {σ : ab_St} {Q : Option Value → ab_St → Prop} : Ev d 131 1 [l0, l1, l2, l3] [.int s0] σ Q = Ev d 131 2 [l0, l1, l2, some (.int s0)] [] σ Q := ev_S d131_1 rfl rfl rfl rfl
theorem d131_2 : decode (ab_C 131) 2 = .ok (.iload_n 3, 1) := by decide +kernel
theorem e131_2 {d : Nat} {l0 l1 l2 : Option Value} {x : Int32} {σ : ab_St} {Q : Option Value → ab_St → Prop} : Ev d 131 2 [l0, l1, l2, some (.int x)] [] σ Q = Ev d 131 3 [l0, l1, l2, some (.int x)] [.int x] σ Q := ev_A1 d131_2 rfl
theorem d131_3 : decode (ab_C 131) 3 = .ok (.bipush 6, 2) := by decide +kernel
theorem e131_3 {d : Nat} {l0 l1 l2 l3 : Option Value} {s0 : Int32} {σ : ab_St} {Q : Option Value → ab_St → Prop} : Ev d 131 3 [l0, l1, l2, l3] [.int s0] σ Q = Ev d 131 5 [l0, l1, l2, l3] [.int 6, .int s0] σ Q := ev_A1 d131_3 rfl
theorem d131_5 : decode (ab_C 131) 5 = .ok (.if_icmp .ge 20, 3) := by decide +kernel
theorem e131_5 {d : Nat} {l0 l1 l2 l3 : Option Value} {s0 : Int32} {s1 : Int32} {σ : ab_St} {Q : Option Value → ab_St → Prop} : Ev d 131 5 [l0, l1, l2, l3] [.int s0, .int s1] σ Q = if s0 ≤ s1 then Ev d 131 25 [l0, l1, l2, l3] [] σ Q else Ev d 131 8 [l0, l1, l2, l3] [] σ Q := ev_B (c := s0 ≤ s1) d131_5 rfl rfl rfl rfl rfl
theorem d131_8 : decode (ab_C 131) 8 = .ok (.aload_n 0, 1) := by decide +kernel
theorem e131_8 {d : Nat} {l1 l2 l3 : Option Value} {x : Nat} {σ : ab_St} {Q : Option Value → ab_St → Prop} : Ev d 131 8 [some (.ref x), l1, l2, l3] [] σ Q = Ev d 131 9 [some (.ref x), l1, l2, l3] [.ref x] σ Q := ev_A1 d131_8 rfl
theorem d131_9 : decode (ab_C 131) 9 = .ok (.getfield 13, 3) := by decide +kernel
theorem e131_9 {d : Nat} {l0 l1 l2 l3 : Option Value} {s0 : Nat} {σ : ab_St} {Q : Option Value → ab_St → Prop} : Ev d 131 9 [l0, l1, l2, l3] [.ref s0] σ Q = (ab_k s0 = 10 ∧ Ev d 131 12 [l0, l1, l2, l3] [.ref (ab_r s0 6)] σ Q) := ev_Hc (c := ab_k s0 = 10) d131_9 rfl rfl rfl rfl rfl rfl rfl rfl
theorem d131_12 : decode (ab_C 131) 12 = .ok (.iload_n 3, 1) := by decide +kernel
theorem e131_12 {d : Nat} {l0 l1 l2 : Option Value} {x : Int32} {s0 : Nat} {σ : ab_St} {Q : Option Value → ab_St → Prop} : Ev d 131 12 [l0, l1, l2, some (.int x)] [.ref s0] σ Q = Ev d 131 13 [l0, l1, l2, some (.int x)] [.int x, .ref s0] σ Q := ev_A1 d131_12 rfl
theorem d131_13 : decode (ab_C 131) 13 = .ok (.aload_n 1, 1) := by decide +kernel
theorem e131_13 {d : Nat} {l0 l2 l3 : Option Value} {x : Nat} {s0 : Int32} {s1 : Nat} {σ : ab_St} {Q : Option Value → ab_St → Prop} : Ev d 131 13 [l0, some (.ref x), l2, l3] [.int s0, .ref s1] σ Q = Ev d 131 14 [l0, some (.ref x), l2, l3] [.ref x, .int s0, .ref s1] σ Q := ev_A1 d131_13 rfl
theorem d131_14 : decode (ab_C 131) 14 = .ok (.iload_n 2, 1) := by decide +kernel
theorem e131_14 {d : Nat} {l0 l1 l3 : Option Value} {x : Int32} {s0 : Nat} {s1 : Int32} {s2 : Nat} {σ : ab_St} {Q : Option Value → ab_St → Prop} : Ev d 131 14 [l0, l1, some (.int x), l3] [.ref s0, .int s1, .ref s2] σ Q = Ev d 131 15 [l0, l1, some (.int x), l3] [.int x, .ref s0, .int s1, .ref s2] σ Q := ev_A1 d131_14 rfl
theorem d131_15 : decode (ab_C 131) 15 = .ok (.iload_n 3, 1) := by decide +kernel
theorem e131_15 {d : Nat} {l0 l1 l2 : Option Value} {x : Int32} {s0 : Int32} {s1 : Nat} {s2 : Int32} {s3 : Nat} {σ : ab_St} {Q : Option Value → ab_St → Prop} : Ev d 131 15 [l0, l1, l2, some (.int x)] [.int s0, .ref s1, .int s2, .ref s3] σ Q = Ev d 131 16 [l0, l1, l2, some (.int x)] [.int x, .int s0, .ref s1, .int s2, .ref s3] σ Q := ev_A1 d131_15 rfl
theorem d131_16 : decode (ab_C 131) 16 = .ok (.iadd, 1) := by decide +kernel
theorem e131_16 {d : Nat} {l0 l1 l2 l3 : Option Value} {s0 : Int32} {s1 : Int32} {s2 : Nat} {s3 : Int32} {s4 : Nat} {σ : ab_St} {Q : Option Value → ab_St → Prop} : Ev d 131 16 [l0, l1, l2, l3] [.int s0, .int s1, .ref s2, .int s3, .ref s4] σ Q = Ev d 131 17 [l0, l1, l2, l3] [.int (s1 + s0), .ref s2, .int s3, .ref s4] σ Q := ev_A2 d131_16 rfl rfl
theorem d131_17 : decode (ab_C 131) 17 = .ok (.iaload, 1) := by decide +kernel
theorem e131_17 {d : Nat} {l0 l1 l2 l3 : Option Value} {s0 : Int32} {s1 : Nat} {s2 : Int32} {s3 : Nat} {σ : ab_St} {Q : Option Value → ab_St → Prop} : Ev d 131 17 [l0, l1, l2, l3] [.int s0, .ref s1, .int s2, .ref s3] σ Q = ((ab_k s1 = 100 ∧ ab_in s0 (ab_n s1)) ∧ Ev d 131 18 [l0, l1, l2, l3] [.int (σ.1 s1 s0.toNatClampNeg), .int s2, .ref s3] σ Q) := ev_Hc (c := ab_k s1 = 100 ∧ ab_in s0 (ab_n s1)) d131_17 rfl rfl rfl rfl rfl rfl rfl rfl
theorem d131_18 : decode (ab_C 131) 18 = .ok (.iastore, 1) := by decide +kernel
theorem e131_18 {d : Nat} {l0 l1 l2 l3 : Option Value} {s0 : Int32} {s1 : Int32} {s2 : Nat} {σ : ab_St} {Q : Option Value → ab_St → Prop} : Ev d 131 18 [l0, l1, l2, l3] [.int s0, .int s1, .ref s2] σ Q = ((ab_k s2 = 100 ∧ ab_in s1 (ab_n s2)) ∧ Ev d 131 19 [l0, l1, l2, l3] [] (ab_wI σ s2 (upd (σ.1 s2) s1.toNatClampNeg s0)) Q) := ev_Hc (c := ab_k s2 = 100 ∧ ab_in s1 (ab_n s2)) d131_18 rfl rfl rfl rfl rfl rfl rfl rfl
theorem d131_19 : decode (ab_C 131) 19 = .ok (.iinc 3 1, 3) := by decide +kernel
theorem e131_19 {d : Nat} {l0 l1 l2 : Option Value} {x : Int32} {σ : ab_St} {Q : Option Value → ab_St → Prop} : Ev d 131 19 [l0, l1, l2, some (.int x)] [] σ Q = Ev d 131 22 [l0, l1, l2, some (.int (x + 1))] [] σ Q := ev_S d131_19 rfl rfl rfl rfl
theorem d131_22 : decode (ab_C 131) 22 = .ok (.goto (-20), 3) := by decide +kernel
theorem e131_22 {d : Nat} {l0 l1 l2 l3 : Option Value} {σ : ab_St} {Q : Option Value → ab_St → Prop} : Ev d 131 22 [l0, l1, l2, l3] [] σ Q = Ev d 131 2 [l0, l1, l2, l3] [] σ Q := ev_J d131_22 rfl rfl rfl rfl rfl
theorem d131_25 : decode (ab_C 131) 25 = .ok (.aload_n 0, 1) := by decide +kernel
theorem e131_25 {d : Nat} {l1 l2 l3 : Option Value} {x : Nat} {σ : ab_St} {Q : Option Value → ab_St → Prop} : Ev d 131 25 [some (.ref x), l1, l2, l3] [] σ Q = Ev d 131 26 [some (.ref x), l1, l2, l3] [.ref x] σ Q := ev_A1 d131_25 rfl
theorem d131_26 : decode (ab_C 131) 26 = .ok (.aload_n 1, 1) := by decide +kernel
theorem e131_26 {d : Nat} {l0 l2 l3 : Option Value} {x : Nat} {s0 : Nat} {σ : ab_St} {Q : Option Value → ab_St → Prop} : Ev d 131 26 [l0, some (.ref x), l2, l3] [.ref s0] σ Q = Ev d 131 27 [l0, some (.ref x), l2, l3] [.ref x, .ref s0] σ Q := ev_A1 d131_26 rfl
theorem d131_27 : decode (ab_C 131) 27 = .ok (.iload_n 2, 1) := by decide +kernel
theorem e131_27 {d : Nat} {l0 l1 l3 : Option Value} {x : Int32} {s0 : Nat} {s1 : Nat} {σ : ab_St} {Q : Option Value → ab_St → Prop} : Ev d 131 27 [l0, l1, some (.int x), l3] [.ref s0, .ref s1] σ Q = Ev d 131 28 [l0, l1, some (.int x), l3] [.int x, .ref s0, .ref s1] σ Q := ev_A1 d131_27 rfl
theorem d131_28 : decode (ab_C 131) 28 = .ok (.bipush 6, 2) := by decide +kernel
theorem e131_28 {d : Nat} {l0 l1 l2 l3 : Option Value} {s0 : Int32} {s1 : Nat} {s2 : Nat} {σ : ab_St} {Q : Option Value → ab_St → Prop} : Ev d 131 28 [l0, l1, l2, l3] [.int s0, .ref s1, .ref s2] σ Q = Ev d 131 30 [l0, l1, l2, l3] [.int 6, .int s0, .ref s1, .ref s2] σ Q := ev_A1 d131_28 rfl
theorem d131_30 : decode (ab_C 131) 30 = .ok (.iadd, 1) := by decide +kernel
theorem e131_30 {d : Nat} {l0 l1 l2 l3 : Option Value} {s0 : Int32} {s1 : Int32} {s2 : Nat} {s3 : Nat} {σ : ab_St} {Q : Option Value → ab_St → Prop} : Ev d 131 30 [l0, l1, l2, l3] [.int s0, .int s1, .ref s2, .ref s3] σ Q = Ev d 131 31 [l0, l1, l2, l3] [.int (s1 + s0), .ref s2, .ref s3] σ Q := ev_A2 d131_30 rfl rfl
theorem d131_31 : decode (ab_C 131) 31 = .ok (.iaload, 1) := by decide +kernel
theorem e131_31 {d : Nat} {l0 l1 l2 l3 : Option Value} {s0 : Int32} {s1 : Nat} {s2 : Nat} {σ : ab_St} {Q : Option Value → ab_St → Prop} : Ev d 131 31 [l0, l1, l2, l3] [.int s0, .ref s1, .ref s2] σ Q = ((ab_k s1 = 100 ∧ ab_in s0 (ab_n s1)) ∧ Ev d 131 32 [l0, l1, l2, l3] [.int (σ.1 s1 s0.toNatClampNeg), .ref s2] σ Q) := ev_Hc (c := ab_k s1 = 100 ∧ ab_in s0 (ab_n s1)) d131_31 rfl rfl rfl rfl rfl rfl rfl rfl
theorem d131_32 : decode (ab_C 131) 32 = .ok (.putfield 138, 3) := by decide +kernel
theorem e131_32 {d : Nat} {l0 l1 l2 l3 : Option Value} {s0 : Int32} {s1 : Nat} {σ : ab_St} {Q : Option Value → ab_St → Prop} : Ev d 131 32 [l0, l1, l2, l3] [.int s0, .ref s1] σ Q = (ab_k s1 = 10 ∧ Ev d 131 35 [l0, l1, l2, l3] [] (ab_wI σ s1 (upd (σ.1 s1) 7 s0)) Q) := ev_Hc (c := ab_k s1 = 10) d131_32 rfl rfl rfl rfl rfl rfl rfl rfl
theorem d131_35 : decode (ab_C 131) 35 = .ok (.aload_n 0, 1) := by decide +kernel
theorem e131_35 {d : Nat} {l1 l2 l3 : Option Value} {x : Nat} {σ : ab_St} {Q : Option Value → ab_St → Prop} : Ev d 131 35 [some (.ref x), l1, l2, l3] [] σ Q = Ev d 131 36 [some (.ref x), l1, l2, l3] [.ref x] σ Q := ev_A1 d131_35 rfl
theorem d131_36 : decode (ab_C 131) 36 = .ok (.aload_n 1, 1) := by decide +kernel
theorem e131_36 {d : Nat} {l0 l2 l3 : Option Value} {x : Nat} {s0 : Nat} {σ : ab_St} {Q : Option Value → ab_St → Prop} : Ev d 131 36 [l0, some (.ref x), l2, l3] [.ref s0] σ Q = Ev d 131 37 [l0, some (.ref x), l2, l3] [.ref x, .ref s0] σ Q := ev_A1 d131_36 rfl
theorem d131_37 : decode (ab_C 131) 37 = .ok (.iload_n 2, 1) := by decide +kernel
theorem e131_37 {d : Nat} {l0 l1 l3 : Option Value} {x : Int32} {s0 : Nat} {s1 : Nat} {σ : ab_St} {Q : Option Value → ab_St → Prop} : Ev d 131 37 [l0, l1, some (.int x), l3] [.ref s0, .ref s1] σ Q = Ev d 131 38 [l0, l1, some (.int x), l3] [.int x, .ref s0, .ref s1] σ Q := ev_A1 d131_37 rfl
theorem d131_38 : decode (ab_C 131) 38 = .ok (.bipush 7, 2) := by decide +kernel
theorem e131_38 {d : Nat} {l0 l1 l2 l3 : Option Value} {s0 : Int32} {s1 : Nat} {s2 : Nat} {σ : ab_St} {Q : Option Value → ab_St → Prop} : Ev d 131 38 [l0, l1, l2, l3] [.int s0, .ref s1, .ref s2] σ Q = Ev d 131 40 [l0, l1, l2, l3] [.int 7, .int s0, .ref s1, .ref s2] σ Q := ev_A1 d131_38 rfl
theorem d131_40 : decode (ab_C 131) 40 = .ok (.iadd, 1) := by decide +kernel
theorem e131_40 {d : Nat} {l0 l1 l2 l3 : Option Value} {s0 : Int32} {s1 : Int32} {s2 : Nat} {s3 : Nat} {σ : ab_St} {Q : Option Value → ab_St → Prop} : Ev d 131 40 [l0, l1, l2, l3] [.int s0, .int s1, .ref s2, .ref s3] σ Q = Ev d 131 41 [l0, l1, l2, l3] [.int (s1 + s0), .ref s2, .ref s3] σ Q := ev_A2 d131_40 rfl rfl
theorem d131_41 : decode (ab_C 131) 41 = .ok (.iaload, 1) := by decide +kernel
theorem e131_41 {d : Nat} {l0 l1 l2 l3 : Option Value} {s0 : Int32} {s1 : Nat} {s2 : Nat} {σ : ab_St} {Q : Option Value → ab_St → Prop} : Ev d 131 41 [l0, l1, l2, l3] [.int s0, .ref s1, .ref s2] σ Q = ((ab_k s1 = 100 ∧ ab_in s0 (ab_n s1)) ∧ Ev d 131 42 [l0, l1, l2, l3] [.int (σ.1 s1 s0.toNatClampNeg), .ref s2] σ Q) := ev_Hc (c := ab_k s1 = 100 ∧ ab_in s0 (ab_n s1)) d131_41 rfl rfl rfl rfl rfl rfl rfl rfl
theorem d131_42 : decode (ab_C 131) 42 = .ok (.putfield 141, 3) := by decide +kernel
theorem e131_42 {d : Nat} {l0 l1 l2 l3 : Option Value} {s0 : Int32} {s1 : Nat} {σ : ab_St} {Q : Option Value → ab_St → Prop} : Ev d 131 42 [l0, l1, l2, l3] [.int s0, .ref s1] σ Q = (ab_k s1 = 10 ∧ Ev d 131 45 [l0, l1, l2, l3] [] (ab_wI σ s1 (upd (σ.1 s1) 13 s0)) Q) := ev_Hc (c := ab_k s1 = 10) d131_42 rfl rfl rfl rfl rfl rfl rfl rfl
theorem d131_45 : decode (ab_C 131) 45 = .ok (.aload_n 0, 1) := by decide +kernel
theorem e131_45 {d : Nat} {l1 l2 l3 : Option Value} {x : Nat} {σ : ab_St} {Q : Option Value → ab_St → Prop} : Ev d 131 45 [some (.ref x), l1, l2, l3] [] σ Q = Ev d 131 46 [some (.ref x), l1, l2, l3] [.ref x] σ Q := ev_A1 d131_45 rfl
theorem d131_46 : decode (ab_C 131) 46 = .ok (.aload_n 1, 1) := by decide +kernel
theorem e131_46 {d : Nat} {l0 l2 l3 : Option Value} {x : Nat} {s0 : Nat} {σ : ab_St} {Q : Option Value → ab_St → Prop} : Ev d 131 46 [l0, some (.ref x), l2, l3] [.ref s0] σ Q = Ev d 131 47 [l0, some (.ref x), l2, l3] [.ref x, .ref s0] σ Q := ev_A1 d131_46 rfl
theorem d131_47 : decode (ab_C 131) 47 = .ok (.iload_n 2, 1) := by decide +kernel
theorem e131_47 {d : Nat} {l0 l1 l3 : Option Value} {x : Int32} {s0 : Nat} {s1 : Nat} {σ : ab_St} {Q : Option Value → ab_St → Prop} : Ev d 131 47 [l0, l1, some (.int x), l3] [.ref s0, .ref s1] σ Q = Ev d 131 48 [l0, l1, some (.int x), l3] [.int x, .ref s0, .ref s1] σ Q := ev_A1 d131_47 rfl
theorem d131_48 : decode (ab_C 131) 48 = .ok (.bipush 8, 2) := by decide +kernel
theorem e131_48 {d : Nat} {l0 l1 l2 l3 : Option Value} {s0 : Int32} {s1 : Nat} {s2 : Nat} {σ : ab_St} {Q : Option Value → ab_St → Prop} : Ev d 131 48 [l0, l1, l2, l3] [.int s0, .ref s1, .ref s2] σ Q = Ev d 131 50 [l0, l1, l2, l3] [.int 8, .int s0, .ref s1, .ref s2] σ Q := ev_A1 d131_48 rfl
theorem d131_50 : decode (ab_C 131) 50 = .ok (.iadd, 1) := by decide +kernel
theorem e131_50 {d : Nat} {l0 l1 l2 l3 : Option Value} {s0 : Int32} {s1 : Int32} {s2 : Nat} {s3 : Nat} {σ : ab_St} {Q : Option Value → ab_St → Prop} : Ev d 131 50 [l0, l1, l2, l3] [.int s0, .int s1, .ref s2, .ref s3] σ Q = Ev d 131 51 [l0, l1, l2, l3] [.int (s1 + s0), .ref s2, .ref s3] σ Q := ev_A2 d131_50 rfl rfl
theorem d131_51 : decode (ab_C 131) 51 = .ok (.iaload, 1) := by decide +kernel
theorem e131_51 {d : Nat} {l0 l1 l2 l3 : Option Value} {s0 : Int32} {s1 : Nat} {s2 : Nat} {σ : ab_St} {Q : Option Value → ab_St → Prop} : Ev d 131 51 [l0, l1, l2, l3] [.int s0, .ref s1, .ref s2] σ Q = ((ab_k s1 = 100 ∧ ab_in s0 (ab_n s1)) ∧ Ev d 131 52 [l0, l1, l2, l3] [.int (σ.1 s1 s0.toNatClampNeg), .ref s2] σ Q) := ev_Hc (c := ab_k s1 = 100 ∧ ab_in s0 (ab_n s1)) d131_51 rfl rfl rfl rfl rfl rfl rfl rfl
theorem d131_52 : decode (ab_C 131) 52 = .ok (.putfield 28, 3) := by decide +kernel
theorem e131_52 {d : Nat} {l0 l1 l2 l3 : Option Value} {s0 : Int32} {s1 : Nat} {σ : ab_St} {Q : Option Value → ab_St → Prop} : Ev d 131 52 [l0, l1, l2, l3] [.int s0, .ref s1] σ Q = (ab_k s1 = 10 ∧ Ev d 131 55 [l0, l1, l2, l3] [] (ab_wI σ s1 (upd (σ.1 s1) 14 s0)) Q) := ev_Hc (c := ab_k s1 = 10) d131_52 rfl rfl rfl rfl rfl rfl rfl rfl
theorem d131_55 : decode (ab_C 131) 55 = .ok (.return_, 1) := by decide +kernel
theorem e131_55 {d : Nat} {l0 l1 l2 l3 : Option Value} {σ : ab_St} {Q : Option Value → ab_St → Prop} : Ev d 131 55 [l0, l1, l2, l3] [] σ Q = Q none σ := ev_E d131_55 rfl rfl rfl rfl rfl rfl rfl
/-! SaidLeastModel.judge(II)I -/
theorem d132_0 : decode (ab_C 132) 0 = .ok (.aload_n 0, 1) := by decide +kernel
theorem e132_0 {d : Nat} {l1 l2 l3 l4 l5 : Option Value} {x : Nat} {σ : ab_St} {Q : Option Value → ab_St → Prop} : Ev d 132 0 [some (.ref x), l1, l2, l3, l4, l5] [] σ Q = Ev d 132 1 [some (.ref x), l1, l2, l3, l4, l5] [.ref x] σ Q := ev_A1 d132_0 rfl
theorem d132_1 : decode (ab_C 132) 1 = .ok (.iconst 0, 1) := by decide +kernel
theorem e132_1 {d : Nat} {l0 l1 l2 l3 l4 l5 : Option Value} {s0 : Nat} {σ : ab_St} {Q : Option Value → ab_St → Prop} : Ev d 132 1 [l0, l1, l2, l3, l4, l5] [.ref s0] σ Q = Ev d 132 2 [l0, l1, l2, l3, l4, l5] [.int 0, .ref s0] σ Q := ev_A1 d132_1 rfl
theorem d132_2 : decode (ab_C 132) 2 = .ok (.putfield 79, 3) := by decide +kernel
theorem e132_2 {d : Nat} {l0 l1 l2 l3 l4 l5 : Option Value} {s0 : Int32} {s1 : Nat} {σ : ab_St} {Q : Option Value → ab_St → Prop} : Ev d 132 2 [l0, l1, l2, l3, l4, l5] [.int s0, .ref s1] σ Q = (ab_k s1 = 10 ∧ Ev d 132 5 [l0, l1, l2, l3, l4, l5] [] (ab_wI σ s1 (upd (σ.1 s1) 0 s0)) Q) := ev_Hc (c := ab_k s1 = 10) d132_2 rfl rfl rfl rfl rfl rfl rfl rfl
theorem d132_5 : decode (ab_C 132) 5 = .ok (.iload_n 1, 1) := by decide +kernel
theorem e132_5 {d : Nat} {l0 l2 l3 l4 l5 : Option Value} {x : Int32} {σ : ab_St} {Q : Option Value → ab_St → Prop} : Ev d 132 5 [l0, some (.int x), l2, l3, l4, l5] [] σ Q = Ev d 132 6 [l0, some (.int x), l2, l3, l4, l5] [.int x] σ Q := ev_A1 d132_5 rfl
theorem d132_6 : decode (ab_C 132) 6 = .ok (.i2l, 1) := by decide +kernel
theorem e132_6 {d : Nat} {l0 l1 l2 l3 l4 l5 : Option Value} {s0 : Int32} {σ : ab_St} {Q : Option Value → ab_St → Prop} : Ev d 132 6 [l0, l1, l2, l3, l4, l5] [.int s0] σ Q = Ev d 132 7 [l0, l1, l2, l3, l4, l5] [.long s0.toInt64] σ Q := ev_A2 d132_6 rfl rfl
theorem d132_7 : decode (ab_C 132) 7 = .ok (.lconst 1, 1) := by decide +kernel
theorem e132_7 {d : Nat} {l0 l1 l2 l3 l4 l5 : Option Value} {s0 : Int64} {σ : ab_St} {Q : Option Value → ab_St → Prop} : Ev d 132 7 [l0, l1, l2, l3, l4, l5] [.long s0] σ Q = Ev d 132 8 [l0, l1, l2, l3, l4, l5] [.long 1, .long s0] σ Q := ev_A1 d132_7 rfl
theorem d132_8 : decode (ab_C 132) 8 = .ok (.ldc2_w 92, 3) := by decide +kernel
theorem e132_8 {d : Nat} {l0 l1 l2 l3 l4 l5 : Option Value} {s0 : Int64} {s1 : Int64} {σ : ab_St} {Q : Option Value → ab_St → Prop} : Ev d 132 8 [l0, l1, l2, l3, l4, l5] [.long s0, .long s1] σ Q = Ev d 132 11 [l0, l1, l2, l3, l4, l5] [.long 8, .long s0, .long s1] σ Q := ev_A1 d132_8 rfl
theorem d132_11 : decode (ab_C 132) 11 = .ok (.invokestatic 85, 3) := by decide +kernel
theorem e132_11 {d : Nat} {l0 l1 l2 l3 l4 l5 : Option Value} {s0 : Int64} {s1 : Int64} {s2 : Int64} {σ : ab_St} {Q : Option Value → ab_St → Prop} : Ev (d + 1) 132 11 [l0, l1, l2, l3, l4, l5] [.long s0, .long s1, .long s2] σ Q = Ev d 101 0 [some (.long s2), none, some (.long s1), none, some (.long s0), none] [] σ (fun r σ2 => Ev (d + 1) 132 14 [l0, l1, l2, l3, l4, l5] (r.toList ++ []) σ2 Q) := ev_K0 (y := 101) (ls := [l0, l1, l2, l3, l4, l5]) (st := [.long s0, .long s1, .long s2]) (as := [.long s2, .long s1, .long s0]) (rest := []) d132_11 rfl rfl rfl rfl rfl rfl rfl rfl
theorem d132_14 : decode (ab_C 132) 14 = .ok (.ifCond .ne 6, 3) := by decide +kernel
theorem e132_14 {d : Nat} {l0 l1 l2 l3 l4 l5 : Option Value} {s0 : Int32} {σ : ab_St} {Q : Option Value → ab_St → Prop} : Ev d 132 14 [l0, l1, l2, l3, l4, l5] [.int s0] σ Q = if s0 = 0 then Ev d 132 17 [l0, l1, l2, l3, l4, l5] [] σ Q else Ev d 132 20 [l0, l1, l2, l3, l4, l5] [] σ Q := ev_B (c := s0 = 0) d132_14 rfl rfl rfl rfl rfl
theorem d132_17 : decode (ab_C 132) 17 = .ok (.bipush (-2), 2) := by decide +kernel
theorem e132_17 {d : Nat} {l0 l1 l2 l3 l4 l5 : Option Value} {σ : ab_St} {Q : Option Value → ab_St → Prop} : Ev d 132 17 [l0, l1, l2, l3, l4, l5] [] σ Q = Ev d 132 19 [l0, l1, l2, l3, l4, l5] [.int (-2)] σ Q := ev_A1 d132_17 rfl
theorem d132_19 : decode (ab_C 132) 19 = .ok (.ireturn, 1) := by decide +kernel
theorem e132_19 {d : Nat} {l0 l1 l2 l3 l4 l5 : Option Value} {s0 : Int32} {σ : ab_St} {Q : Option Value → ab_St → Prop} : Ev d 132 19 [l0, l1, l2, l3, l4, l5] [.int s0] σ Q = Q (some (.int s0)) σ := ev_E d132_19 rfl rfl rfl rfl rfl rfl rfl
theorem d132_20 : decode (ab_C 132) 20 = .ok (.iconst 1, 1) := by decide +kernel
theorem e132_20 {d : Nat} {l0 l1 l2 l3 l4 l5 : Option Value} {σ : ab_St} {Q : Option Value → ab_St → Prop} : Ev d 132 20 [l0, l1, l2, l3, l4, l5] [] σ Q = Ev d 132 21 [l0, l1, l2, l3, l4, l5] [.int 1] σ Q := ev_A1 d132_20 rfl
theorem d132_21 : decode (ab_C 132) 21 = .ok (.istore_n 3, 1) := by decide +kernel
theorem e132_21 {d : Nat} {l0 l1 l2 l3 l4 l5 : Option Value} {s0 : Int32} {σ : ab_St} {Q : Option Value → ab_St → Prop} : Ev d 132 21 [l0, l1, l2, l3, l4, l5] [.int s0] σ Q = Ev d 132 22 [l0, l1, l2, some (.int s0), l4, l5] [] σ Q := ev_S d132_21 rfl rfl rfl rfl
theorem d132_22 : decode (ab_C 132) 22 = .ok (.iconst 0, 1) := by decide +kernel
theorem e132_22 {d : Nat} {l0 l1 l2 l3 l4 l5 : Option Value} {σ : ab_St} {Q : Option Value → ab_St → Prop} : Ev d 132 22 [l0, l1, l2, l3, l4, l5] [] σ Q = Ev d 132 23 [l0, l1, l2, l3, l4, l5] [.int 0] σ Q := ev_A1 d132_22 rfl
theorem d132_23 : decode (ab_C 132) 23 = .ok (.istore 4, 2) := by decide +kernel
theorem e132_23 {d : Nat} {l0 l1 l2 l3 l4 l5 : Option Value} {s0 : Int32} {σ : ab_St} {Q : Option Value → ab_St → Prop} : Ev d 132 23 [l0, l1, l2, l3, l4, l5] [.int s0] σ Q = Ev d 132 25 [l0, l1, l2, l3, some (.int s0), l5] [] σ Q := ev_S d132_23 rfl rfl rfl rfl
theorem d132_25 : decode (ab_C 132) 25 = .ok (.iload 4, 2) := by decide +kernel
theorem e132_25 {d : Nat} {l0 l1 l2 l3 l5 : Option Value} {x : Int32} {σ : ab_St} {Q : Option Value → ab_St → Prop} : Ev d 132 25 [l0, l1, l2, l3, some (.int x), l5] [] σ Q = Ev d 132 27 [l0, l1, l2, l3, some (.int x), l5] [.int x] σ Q := ev_A1 d132_25 rfl
theorem d132_27 : decode (ab_C 132) 27 = .ok (.iload_n 1, 1) := by decide +kernel
theorem e132_27 {d : Nat} {l0 l2 l3 l4 l5 : Option Value} {x : Int32} {s0 : Int32} {σ : ab_St} {Q : Option Value → ab_St → Prop} : Ev d 132 27 [l0, some (.int x), l2, l3, l4, l5] [.int s0] σ Q = Ev d 132 28 [l0, some (.int x), l2, l3, l4, l5] [.int x, .int s0] σ Q := ev_A1 d132_27 rfl
theorem d132_28 : decode (ab_C 132) 28 = .ok (.if_icmp .ge 14, 3) := by decide +kernel
theorem e132_28 {d : Nat} {l0 l1 l2 l3 l4 l5 : Option Value} {s0 : Int32} {s1 : Int32} {σ : ab_St} {Q : Option Value → ab_St → Prop} : Ev d 132 28 [l0, l1, l2, l3, l4, l5] [.int s0, .int s1] σ Q = if s0 ≤ s1 then Ev d 132 42 [l0, l1, l2, l3, l4, l5] [] σ Q else Ev d 132 31 [l0, l1, l2, l3, l4, l5] [] σ Q := ev_B (c := s0 ≤ s1) d132_28 rfl rfl rfl rfl rfl
theorem d132_31 : decode (ab_C 132) 31 = .ok (.iload_n 3, 1) := by decide +kernel
theorem e132_31 {d : Nat} {l0 l1 l2 l4 l5 : Option Value} {x : Int32} {σ : ab_St} {Q : Option Value → ab_St → Prop} : Ev d 132 31 [l0, l1, l2, some (.int x), l4, l5] [] σ Q = Ev d 132 32 [l0, l1, l2, some (.int x), l4, l5] [.int x] σ Q := ev_A1 d132_31 rfl
theorem d132_32 : decode (ab_C 132) 32 = .ok (.bipush 10, 2) := by decide +kernel
theorem e132_32 {d : Nat} {l0 l1 l2 l3 l4 l5 : Option Value} {s0 : Int32} {σ : ab_St} {Q : Option Value → ab_St → Prop} : Ev d 132 32 [l0, l1, l2, l3, l4, l5] [.int s0] σ Q = Ev d 132 34 [l0, l1, l2, l3, l4, l5] [.int 10, .int s0] σ Q := ev_A1 d132_32 rfl
theorem d132_34 : decode (ab_C 132) 34 = .ok (.imul, 1) := by decide +kernel
theorem e132_34 {d : Nat} {l0 l1 l2 l3 l4 l5 : Option Value} {s0 : Int32} {s1 : Int32} {σ : ab_St} {Q : Option Value → ab_St → Prop} : Ev d 132 34 [l0, l1, l2, l3, l4, l5] [.int s0, .int s1] σ Q = Ev d 132 35 [l0, l1, l2, l3, l4, l5] [.int (s1 * s0)] σ Q := ev_A2 d132_34 rfl rfl
theorem d132_35 : decode (ab_C 132) 35 = .ok (.istore_n 3, 1) := by decide +kernel
theorem e132_35 {d : Nat} {l0 l1 l2 l3 l4 l5 : Option Value} {s0 : Int32} {σ : ab_St} {Q : Option Value → ab_St → Prop} : Ev d 132 35 [l0, l1, l2, l3, l4, l5] [.int s0] σ Q = Ev d 132 36 [l0, l1, l2, some (.int s0), l4, l5] [] σ Q := ev_S d132_35 rfl rfl rfl rfl
theorem d132_36 : decode (ab_C 132) 36 = .ok (.iinc 4 1, 3) := by decide +kernel
theorem e132_36 {d : Nat} {l0 l1 l2 l3 l5 : Option Value} {x : Int32} {σ : ab_St} {Q : Option Value → ab_St → Prop} : Ev d 132 36 [l0, l1, l2, l3, some (.int x), l5] [] σ Q = Ev d 132 39 [l0, l1, l2, l3, some (.int (x + 1)), l5] [] σ Q := ev_S d132_36 rfl rfl rfl rfl
theorem d132_39 : decode (ab_C 132) 39 = .ok (.goto (-14), 3) := by decide +kernel
theorem e132_39 {d : Nat} {l0 l1 l2 l3 l4 l5 : Option Value} {σ : ab_St} {Q : Option Value → ab_St → Prop} : Ev d 132 39 [l0, l1, l2, l3, l4, l5] [] σ Q = Ev d 132 25 [l0, l1, l2, l3, l4, l5] [] σ Q := ev_J d132_39 rfl rfl rfl rfl rfl
theorem d132_42 : decode (ab_C 132) 42 = .ok (.iload_n 2, 1) := by decide +kernel
theorem e132_42 {d : Nat} {l0 l1 l3 l4 l5 : Option Value} {x : Int32} {σ : ab_St} {Q : Option Value → ab_St → Prop} : Ev d 132 42 [l0, l1, some (.int x), l3, l4, l5] [] σ Q = Ev d 132 43 [l0, l1, some (.int x), l3, l4, l5] [.int x] σ Q := ev_A1 d132_42 rfl
theorem d132_43 : decode (ab_C 132) 43 = .ok (.i2l, 1) := by decide +kernel
theorem e132_43 {d : Nat} {l0 l1 l2 l3 l4 l5 : Option Value} {s0 : Int32} {σ : ab_St} {Q : Option Value → ab_St → Prop} : Ev d 132 43 [l0, l1, l2, l3, l4, l5] [.int s0] σ Q = Ev d 132 44 [l0, l1, l2, l3, l4, l5] [.long s0.toInt64] σ Q := ev_A2 d132_43 rfl rfl
theorem d132_44 : decode (ab_C 132) 44 = .ok (.lconst 0, 1) := by decide +kernel
theorem e132_44 {d : Nat} {l0 l1 l2 l3 l4 l5 : Option Value} {s0 : Int64} {σ : ab_St} {Q : Option Value → ab_St → Prop} : Ev d 132 44 [l0, l1, l2, l3, l4, l5] [.long s0] σ Q = Ev d 132 45 [l0, l1, l2, l3, l4, l5] [.long 0, .long s0] σ Q := ev_A1 d132_44 rfl
theorem d132_45 : decode (ab_C 132) 45 = .ok (.iload_n 3, 1) := by decide +kernel
theorem e132_45 {d : Nat} {l0 l1 l2 l4 l5 : Option Value} {x : Int32} {s0 : Int64} {s1 : Int64} {σ : ab_St} {Q : Option Value → ab_St → Prop} : Ev d 132 45 [l0, l1, l2, some (.int x), l4, l5] [.long s0, .long s1] σ Q = Ev d 132 46 [l0, l1, l2, some (.int x), l4, l5] [.int x, .long s0, .long s1] σ Q := ev_A1 d132_45 rfl
theorem d132_46 : decode (ab_C 132) 46 = .ok (.iconst 1, 1) := by decide +kernel
theorem e132_46 {d : Nat} {l0 l1 l2 l3 l4 l5 : Option Value} {s0 : Int32} {s1 : Int64} {s2 : Int64} {σ : ab_St} {Q : Option Value → ab_St → Prop} : Ev d 132 46 [l0, l1, l2, l3, l4, l5] [.int s0, .long s1, .long s2] σ Q = Ev d 132 47 [l0, l1, l2, l3, l4, l5] [.int 1, .int s0, .long s1, .long s2] σ Q := ev_A1 d132_46 rfl
theorem d132_47 : decode (ab_C 132) 47 = .ok (.isub, 1) := by decide +kernel
theorem e132_47 {d : Nat} {l0 l1 l2 l3 l4 l5 : Option Value} {s0 : Int32} {s1 : Int32} {s2 : Int64} {s3 : Int64} {σ : ab_St} {Q : Option Value → ab_St → Prop} : Ev d 132 47 [l0, l1, l2, l3, l4, l5] [.int s0, .int s1, .long s2, .long s3] σ Q = Ev d 132 48 [l0, l1, l2, l3, l4, l5] [.int (s1 - s0), .long s2, .long s3] σ Q := ev_A2 d132_47 rfl rfl
theorem d132_48 : decode (ab_C 132) 48 = .ok (.i2l, 1) := by decide +kernel
theorem e132_48 {d : Nat} {l0 l1 l2 l3 l4 l5 : Option Value} {s0 : Int32} {s1 : Int64} {s2 : Int64} {σ : ab_St} {Q : Option Value → ab_St → Prop} : Ev d 132 48 [l0, l1, l2, l3, l4, l5] [.int s0, .long s1, .long s2] σ Q = Ev d 132 49 [l0, l1, l2, l3, l4, l5] [.long s0.toInt64, .long s1, .long s2] σ Q := ev_A2 d132_48 rfl rfl
theorem d132_49 : decode (ab_C 132) 49 = .ok (.invokestatic 85, 3) := by decide +kernel
theorem e132_49 {d : Nat} {l0 l1 l2 l3 l4 l5 : Option Value} {s0 : Int64} {s1 : Int64} {s2 : Int64} {σ : ab_St} {Q : Option Value → ab_St → Prop} : Ev (d + 1) 132 49 [l0, l1, l2, l3, l4, l5] [.long s0, .long s1, .long s2] σ Q = Ev d 101 0 [some (.long s2), none, some (.long s1), none, some (.long s0), none] [] σ (fun r σ2 => Ev (d + 1) 132 52 [l0, l1, l2, l3, l4, l5] (r.toList ++ []) σ2 Q) := ev_K0 (y := 101) (ls := [l0, l1, l2, l3, l4, l5]) (st := [.long s0, .long s1, .long s2]) (as := [.long s2, .long s1, .long s0]) (rest := []) d132_49 rfl rfl rfl rfl rfl rfl rfl rfl
theorem d132_52 : decode (ab_C 132) 52 = .ok (.ifCond .ne 6, 3) := by decide +kernel
theorem e132_52 {d : Nat} {l0 l1 l2 l3 l4 l5 : Option Value} {s0 : Int32} {σ : ab_St} {Q : Option Value → ab_St → Prop} : Ev d 132 52 [l0, l1, l2, l3, l4, l5] [.int s0] σ Q = if s0 = 0 then Ev d 132 55 [l0, l1, l2, l3, l4, l5] [] σ Q else Ev d 132 58 [l0, l1, l2, l3, l4, l5] [] σ Q := ev_B (c := s0 = 0) d132_52 rfl rfl rfl rfl rfl
theorem d132_55 : decode (ab_C 132) 55 = .ok (.bipush (-2), 2) := by decide +kernel
theorem e132_55 {d : Nat} {l0 l1 l2 l3 l4 l5 : Option Value} {σ : ab_St} {Q : Option Value → ab_St → Prop} : Ev d 132 55 [l0, l1, l2, l3, l4, l5] [] σ Q = Ev d 132 57 [l0, l1, l2, l3, l4, l5] [.int (-2)] σ Q := ev_A1 d132_55 rfl
theorem d132_57 : decode (ab_C 132) 57 = .ok (.ireturn, 1) := by decide +kernel
theorem e132_57 {d : Nat} {l0 l1 l2 l3 l4 l5 : Option Value} {s0 : Int32} {σ : ab_St} {Q : Option Value → ab_St → Prop} : Ev d 132 57 [l0, l1, l2, l3, l4, l5] [.int s0] σ Q = Q (some (.int s0)) σ := ev_E d132_57 rfl rfl rfl rfl rfl rfl rfl
theorem d132_58 : decode (ab_C 132) 58 = .ok (.aload_n 0, 1) := by decide +kernel
theorem e132_58 {d : Nat} {l1 l2 l3 l4 l5 : Option Value} {x : Nat} {σ : ab_St} {Q : Option Value → ab_St → Prop} : Ev d 132 58 [some (.ref x), l1, l2, l3, l4, l5] [] σ Q = Ev d 132 59 [some (.ref x), l1, l2, l3, l4, l5] [.ref x] σ Q := ev_A1 d132_58 rfl
theorem d132_59 : decode (ab_C 132) 59 = .ok (.invokevirtual 158, 3) := by decide +kernel
theorem e132_59 {d : Nat} {l0 l1 l2 l3 l4 l5 : Option Value} {s0 : Nat} {σ : ab_St} {Q : Option Value → ab_St → Prop} : Ev (d + 1) 132 59 [l0, l1, l2, l3, l4, l5] [.ref s0] σ Q = (ab_k s0 = 10 ∧ Ev d 112 0 [some (.ref s0), none] [] σ (fun r σ2 => Ev (d + 1) 132 62 [l0, l1, l2, l3, l4, l5] (r.toList ++ []) σ2 Q)) := ev_KV (b := s0) (ls := [l0, l1, l2, l3, l4, l5]) (st := [.ref s0]) (as := []) (rest := []) d132_59 rfl rfl rfl (Nat.le_of_ble_eq_true rfl) (Nat.le_of_ble_eq_true rfl) (Nat.le_of_ble_eq_true rfl) rfl rfl rfl rfl rfl rfl rfl
theorem d132_62 : decode (ab_C 132) 62 = .ok (.iconst 0, 1) := by decide +kernel
theorem e132_62 {d : Nat} {l0 l1 l2 l3 l4 l5 : Option Value} {σ : ab_St} {Q : Option Value → ab_St → Prop} : Ev d 132 62 [l0, l1, l2, l3, l4, l5] [] σ Q = Ev d 132 63 [l0, l1, l2, l3, l4, l5] [.int 0] σ Q := ev_A1 d132_62 rfl
theorem d132_63 : decode (ab_C 132) 63 = .ok (.istore 4, 2) := by decide +kernel
theorem e132_63 {d : Nat} {l0 l1 l2 l3 l4 l5 : Option Value} {s0 : Int32} {σ : ab_St} {Q : Option Value → ab_St → Prop} : Ev d 132 63 [l0, l1, l2, l3, l4, l5] [.int s0] σ Q = Ev d 132 65 [l0, l1, l2, l3, some (.int s0), l5] [] σ Q := ev_S d132_63 rfl rfl rfl rfl
theorem d132_65 : decode (ab_C 132) 65 = .ok (.iload 4, 2) := by decide +kernel
theorem e132_65 {d : Nat} {l0 l1 l2 l3 l5 : Option Value} {x : Int32} {σ : ab_St} {Q : Option Value → ab_St → Prop} : Ev d 132 65 [l0, l1, l2, l3, some (.int x), l5] [] σ Q = Ev d 132 67 [l0, l1, l2, l3, some (.int x), l5] [.int x] σ Q := ev_A1 d132_65 rfl
theorem d132_67 : decode (ab_C 132) 67 = .ok (.iload_n 1, 1) := by decide +kernel
theorem e132_67 {d : Nat} {l0 l2 l3 l4 l5 : Option Value} {x : Int32} {s0 : Int32} {σ : ab_St} {Q : Option Value → ab_St → Prop} : Ev d 132 67 [l0, some (.int x), l2, l3, l4, l5] [.int s0] σ Q = Ev d 132 68 [l0, some (.int x), l2, l3, l4, l5] [.int x, .int s0] σ Q := ev_A1 d132_67 rfl
theorem d132_68 : decode (ab_C 132) 68 = .ok (.if_icmp .ge 49, 3) := by decide +kernel
theorem e132_68 {d : Nat} {l0 l1 l2 l3 l4 l5 : Option Value} {s0 : Int32} {s1 : Int32} {σ : ab_St} {Q : Option Value → ab_St → Prop} : Ev d 132 68 [l0, l1, l2, l3, l4, l5] [.int s0, .int s1] σ Q = if s0 ≤ s1 then Ev d 132 117 [l0, l1, l2, l3, l4, l5] [] σ Q else Ev d 132 71 [l0, l1, l2, l3, l4, l5] [] σ Q := ev_B (c := s0 ≤ s1) d132_68 rfl rfl rfl rfl rfl
theorem d132_71 : decode (ab_C 132) 71 = .ok (.iload_n 3, 1) := by decide +kernel
theorem e132_71 {d : Nat} {l0 l1 l2 l4 l5 : Option Value} {x : Int32} {σ : ab_St} {Q : Option Value → ab_St → Prop} : Ev d 132 71 [l0, l1, l2, some (.int x), l4, l5] [] σ Q = Ev d 132 72 [l0, l1, l2, some (.int x), l4, l5] [.int x] σ Q := ev_A1 d132_71 rfl
theorem d132_72 : decode (ab_C 132) 72 = .ok (.bipush 10, 2) := by decide +kernel
theorem e132_72 {d : Nat} {l0 l1 l2 l3 l4 l5 : Option Value} {s0 : Int32} {σ : ab_St} {Q : Option Value → ab_St → Prop} : Ev d 132 72 [l0, l1, l2, l3, l4, l5] [.int s0] σ Q = Ev d 132 74 [l0, l1, l2, l3, l4, l5] [.int 10, .int s0] σ Q := ev_A1 d132_72 rfl
theorem d132_74 : decode (ab_C 132) 74 = .ok (.idiv, 1) := by decide +kernel
theorem e132_74 {d : Nat} {l0 l1 l2 l3 l4 l5 : Option Value} {s0 : Int32} {s1 : Int32} {σ : ab_St} {Q : Option Value → ab_St → Prop} : Ev d 132 74 [l0, l1, l2, l3, l4, l5] [.int s0, .int s1] σ Q = (¬ s0 = 0 ∧ Ev d 132 75 [l0, l1, l2, l3, l4, l5] [.int (s1 / s0)] σ Q) := ev_D (c := s0 = 0) d132_74 rfl rfl rfl rfl rfl rfl rfl rfl
theorem d132_75 : decode (ab_C 132) 75 = .ok (.istore_n 3, 1) := by decide +kernel
theorem e132_75 {d : Nat} {l0 l1 l2 l3 l4 l5 : Option Value} {s0 : Int32} {σ : ab_St} {Q : Option Value → ab_St → Prop} : Ev d 132 75 [l0, l1, l2, l3, l4, l5] [.int s0] σ Q = Ev d 132 76 [l0, l1, l2, some (.int s0), l4, l5] [] σ Q := ev_S d132_75 rfl rfl rfl rfl
theorem d132_76 : decode (ab_C 132) 76 = .ok (.iload_n 2, 1) := by decide +kernel
theorem e132_76 {d : Nat} {l0 l1 l3 l4 l5 : Option Value} {x : Int32} {σ : ab_St} {Q : Option Value → ab_St → Prop} : Ev d 132 76 [l0, l1, some (.int x), l3, l4, l5] [] σ Q = Ev d 132 77 [l0, l1, some (.int x), l3, l4, l5] [.int x] σ Q := ev_A1 d132_76 rfl
theorem d132_77 : decode (ab_C 132) 77 = .ok (.iload_n 3, 1) := by decide +kernel
theorem e132_77 {d : Nat} {l0 l1 l2 l4 l5 : Option Value} {x : Int32} {s0 : Int32} {σ : ab_St} {Q : Option Value → ab_St → Prop} : Ev d 132 77 [l0, l1, l2, some (.int x), l4, l5] [.int s0] σ Q = Ev d 132 78 [l0, l1, l2, some (.int x), l4, l5] [.int x, .int s0] σ Q := ev_A1 d132_77 rfl
theorem d132_78 : decode (ab_C 132) 78 = .ok (.idiv, 1) := by decide +kernel
theorem e132_78 {d : Nat} {l0 l1 l2 l3 l4 l5 : Option Value} {s0 : Int32} {s1 : Int32} {σ : ab_St} {Q : Option Value → ab_St → Prop} : Ev d 132 78 [l0, l1, l2, l3, l4, l5] [.int s0, .int s1] σ Q = (¬ s0 = 0 ∧ Ev d 132 79 [l0, l1, l2, l3, l4, l5] [.int (s1 / s0)] σ Q) := ev_D (c := s0 = 0) d132_78 rfl rfl rfl rfl rfl rfl rfl rfl
theorem d132_79 : decode (ab_C 132) 79 = .ok (.bipush 10, 2) := by decide +kernel
theorem e132_79 {d : Nat} {l0 l1 l2 l3 l4 l5 : Option Value} {s0 : Int32} {σ : ab_St} {Q : Option Value → ab_St → Prop} : Ev d 132 79 [l0, l1, l2, l3, l4, l5] [.int s0] σ Q = Ev d 132 81 [l0, l1, l2, l3, l4, l5] [.int 10, .int s0] σ Q := ev_A1 d132_79 rfl
theorem d132_81 : decode (ab_C 132) 81 = .ok (.irem, 1) := by decide +kernel
theorem e132_81 {d : Nat} {l0 l1 l2 l3 l4 l5 : Option Value} {s0 : Int32} {s1 : Int32} {σ : ab_St} {Q : Option Value → ab_St → Prop} : Ev d 132 81 [l0, l1, l2, l3, l4, l5] [.int s0, .int s1] σ Q = (¬ s0 = 0 ∧ Ev d 132 82 [l0, l1, l2, l3, l4, l5] [.int (s1 - s1 / s0 * s0)] σ Q) := ev_D (c := s0 = 0) d132_81 rfl rfl rfl rfl rfl rfl rfl rfl
theorem d132_82 : decode (ab_C 132) 82 = .ok (.istore 5, 2) := by decide +kernel
theorem e132_82 {d : Nat} {l0 l1 l2 l3 l4 l5 : Option Value} {s0 : Int32} {σ : ab_St} {Q : Option Value → ab_St → Prop} : Ev d 132 82 [l0, l1, l2, l3, l4, l5] [.int s0] σ Q = Ev d 132 84 [l0, l1, l2, l3, l4, some (.int s0)] [] σ Q := ev_S d132_82 rfl rfl rfl rfl
theorem d132_84 : decode (ab_C 132) 84 = .ok (.aload_n 0, 1) := by decide +kernel
theorem e132_84 {d : Nat} {l1 l2 l3 l4 l5 : Option Value} {x : Nat} {σ : ab_St} {Q : Option Value → ab_St → Prop} : Ev d 132 84 [some (.ref x), l1, l2, l3, l4, l5] [] σ Q = Ev d 132 85 [some (.ref x), l1, l2, l3, l4, l5] [.ref x] σ Q := ev_A1 d132_84 rfl
theorem d132_85 : decode (ab_C 132) 85 = .ok (.iload 5, 2) := by decide +kernel
theorem e132_85 {d : Nat} {l0 l1 l2 l3 l4 : Option Value} {x : Int32} {s0 : Nat} {σ : ab_St} {Q : Option Value → ab_St → Prop} : Ev d 132 85 [l0, l1, l2, l3, l4, some (.int x)] [.ref s0] σ Q = Ev d 132 87 [l0, l1, l2, l3, l4, some (.int x)] [.int x, .ref s0] σ Q := ev_A1 d132_85 rfl
theorem d132_87 : decode (ab_C 132) 87 = .ok (.invokevirtual 170, 3) := by decide +kernel
theorem e132_87 {d : Nat} {l0 l1 l2 l3 l4 l5 : Option Value} {s0 : Int32} {s1 : Nat} {σ : ab_St} {Q : Option Value → ab_St → Prop} : Ev (d + 1) 132 87 [l0, l1, l2, l3, l4, l5] [.int s0, .ref s1] σ Q = (ab_k s1 = 10 ∧ Ev d 119 0 [some (.ref s1), some (.int s0)] [] σ (fun r σ2 => Ev (d + 1) 132 90 [l0, l1, l2, l3, l4, l5] (r.toList ++ []) σ2 Q)) := ev_KV (b := s1) (ls := [l0, l1, l2, l3, l4, l5]) (st := [.int s0, .ref s1]) (as := [.int s0]) (rest := []) d132_87 rfl rfl rfl (Nat.le_of_ble_eq_true rfl) (Nat.le_of_ble_eq_true rfl) (Nat.le_of_ble_eq_true rfl) rfl rfl rfl rfl rfl rfl rfl
theorem d132_90 : decode (ab_C 132) 90 = .ok (.ifCond .ne 12, 3) := by decide +kernel
theorem e132_90 {d : Nat} {l0 l1 l2 l3 l4 l5 : Option Value} {s0 : Int32} {σ : ab_St} {Q : Option Value → ab_St → Prop} : Ev d 132 90 [l0, l1, l2, l3, l4, l5] [.int s0] σ Q = if s0 = 0 then Ev d 132 93 [l0, l1, l2, l3, l4, l5] [] σ Q else Ev d 132 102 [l0, l1, l2, l3, l4, l5] [] σ Q := ev_B (c := s0 = 0) d132_90 rfl rfl rfl rfl rfl
theorem d132_93 : decode (ab_C 132) 93 = .ok (.aload_n 0, 1) := by decide +kernel
theorem e132_93 {d : Nat} {l1 l2 l3 l4 l5 : Option Value} {x : Nat} {σ : ab_St} {Q : Option Value → ab_St → Prop} : Ev d 132 93 [some (.ref x), l1, l2, l3, l4, l5] [] σ Q = Ev d 132 94 [some (.ref x), l1, l2, l3, l4, l5] [.ref x] σ Q := ev_A1 d132_93 rfl
theorem d132_94 : decode (ab_C 132) 94 = .ok (.iload 5, 2) := by decide +kernel
theorem e132_94 {d : Nat} {l0 l1 l2 l3 l4 : Option Value} {x : Int32} {s0 : Nat} {σ : ab_St} {Q : Option Value → ab_St → Prop} : Ev d 132 94 [l0, l1, l2, l3, l4, some (.int x)] [.ref s0] σ Q = Ev d 132 96 [l0, l1, l2, l3, l4, some (.int x)] [.int x, .ref s0] σ Q := ev_A1 d132_94 rfl
theorem d132_96 : decode (ab_C 132) 96 = .ok (.invokevirtual 175, 3) := by decide +kernel
theorem e132_96 {d : Nat} {l0 l1 l2 l3 l4 l5 : Option Value} {s0 : Int32} {s1 : Nat} {σ : ab_St} {Q : Option Value → ab_St → Prop} : Ev (d + 1) 132 96 [l0, l1, l2, l3, l4, l5] [.int s0, .ref s1] σ Q = (ab_k s1 = 10 ∧ Ev d 122 0 [some (.ref s1), some (.int s0)] [] σ (fun r σ2 => Ev (d + 1) 132 99 [l0, l1, l2, l3, l4, l5] (r.toList ++ []) σ2 Q)) := ev_KV (b := s1) (ls := [l0, l1, l2, l3, l4, l5]) (st := [.int s0, .ref s1]) (as := [.int s0]) (rest := []) d132_96 rfl rfl rfl (Nat.le_of_ble_eq_true rfl) (Nat.le_of_ble_eq_true rfl) (Nat.le_of_ble_eq_true rfl) rfl rfl rfl rfl rfl rfl rfl
theorem d132_99 : decode (ab_C 132) 99 = .ok (.ifCond .ne 6, 3) := by decide +kernel
theorem e132_99 {d : Nat} {l0 l1 l2 l3 l4 l5 : Option Value} {s0 : Int32} {σ : ab_St} {Q : Option Value → ab_St → Prop} : Ev d 132 99 [l0, l1, l2, l3, l4, l5] [.int s0] σ Q = if s0 = 0 then Ev d 132 102 [l0, l1, l2, l3, l4, l5] [] σ Q else Ev d 132 105 [l0, l1, l2, l3, l4, l5] [] σ Q := ev_B (c := s0 = 0) d132_99 rfl rfl rfl rfl rfl
theorem d132_102 : decode (ab_C 132) 102 = .ok (.iload 4, 2) := by decide +kernel
theorem e132_102 {d : Nat} {l0 l1 l2 l3 l5 : Option Value} {x : Int32} {σ : ab_St} {Q : Option Value → ab_St → Prop} : Ev d 132 102 [l0, l1, l2, l3, some (.int x), l5] [] σ Q = Ev d 132 104 [l0, l1, l2, l3, some (.int x), l5] [.int x] σ Q := ev_A1 d132_102 rfl
theorem d132_104 : decode (ab_C 132) 104 = .ok (.ireturn, 1) := by decide +kernel
theorem e132_104 {d : Nat} {l0 l1 l2 l3 l4 l5 : Option Value} {s0 : Int32} {σ : ab_St} {Q : Option Value → ab_St → Prop} : Ev d 132 104 [l0, l1, l2, l3, l4, l5] [.int s0] σ Q = Q (some (.int s0)) σ := ev_E d132_104 rfl rfl rfl rfl rfl rfl rfl
theorem d132_105 : decode (ab_C 132) 105 = .ok (.aload_n 0, 1) := by decide +kernel
theorem e132_105 {d : Nat} {l1 l2 l3 l4 l5 : Option Value} {x : Nat} {σ : ab_St} {Q : Option Value → ab_St → Prop} : Ev d 132 105 [some (.ref x), l1, l2, l3, l4, l5] [] σ Q = Ev d 132 106 [some (.ref x), l1, l2, l3, l4, l5] [.ref x] σ Q := ev_A1 d132_105 rfl
theorem d132_106 : decode (ab_C 132) 106 = .ok (.iload 5, 2) := by decide +kernel
theorem e132_106 {d : Nat} {l0 l1 l2 l3 l4 : Option Value} {x : Int32} {s0 : Nat} {σ : ab_St} {Q : Option Value → ab_St → Prop} : Ev d 132 106 [l0, l1, l2, l3, l4, some (.int x)] [.ref s0] σ Q = Ev d 132 108 [l0, l1, l2, l3, l4, some (.int x)] [.int x, .ref s0] σ Q := ev_A1 d132_106 rfl
theorem d132_108 : decode (ab_C 132) 108 = .ok (.invokevirtual 194, 3) := by decide +kernel
theorem e132_108 {d : Nat} {l0 l1 l2 l3 l4 l5 : Option Value} {s0 : Int32} {s1 : Nat} {σ : ab_St} {Q : Option Value → ab_St → Prop} : Ev (d + 1) 132 108 [l0, l1, l2, l3, l4, l5] [.int s0, .ref s1] σ Q = (ab_k s1 = 10 ∧ Ev d 133 0 [some (.ref s1), some (.int s0)] [] σ (fun r σ2 => Ev (d + 1) 132 111 [l0, l1, l2, l3, l4, l5] (r.toList ++ []) σ2 Q)) := ev_KV (b := s1) (ls := [l0, l1, l2, l3, l4, l5]) (st := [.int s0, .ref s1]) (as := [.int s0]) (rest := []) d132_108 rfl rfl rfl (Nat.le_of_ble_eq_true rfl) (Nat.le_of_ble_eq_true rfl) (Nat.le_of_ble_eq_true rfl) rfl rfl rfl rfl rfl rfl rfl
theorem d132_111 : decode (ab_C 132) 111 = .ok (.iinc 4 1, 3) := by decide +kernel
theorem e132_111 {d : Nat} {l0 l1 l2 l3 l5 : Option Value} {x : Int32} {σ : ab_St} {Q : Option Value → ab_St → Prop} : Ev d 132 111 [l0, l1, l2, l3, some (.int x), l5] [] σ Q = Ev d 132 114 [l0, l1, l2, l3, some (.int (x + 1)), l5] [] σ Q := ev_S d132_111 rfl rfl rfl rfl
theorem d132_114 : decode (ab_C 132) 114 = .ok (.goto (-49), 3) := by decide +kernel
theorem e132_114 {d : Nat} {l0 l1 l2 l3 l4 l5 : Option Value} {σ : ab_St} {Q : Option Value → ab_St → Prop} : Ev d 132 114 [l0, l1, l2, l3, l4, l5] [] σ Q = Ev d 132 65 [l0, l1, l2, l3, l4, l5] [] σ Q := ev_J d132_114 rfl rfl rfl rfl rfl
theorem d132_117 : decode (ab_C 132) 117 = .ok (.bipush (-9), 2) := by decide +kernel
theorem e132_117 {d : Nat} {l0 l1 l2 l3 l4 l5 : Option Value} {σ : ab_St} {Q : Option Value → ab_St → Prop} : Ev d 132 117 [l0, l1, l2, l3, l4, l5] [] σ Q = Ev d 132 119 [l0, l1, l2, l3, l4, l5] [.int (-9)] σ Q := ev_A1 d132_117 rfl
theorem d132_119 : decode (ab_C 132) 119 = .ok (.ireturn, 1) := by decide +kernel
theorem e132_119 {d : Nat} {l0 l1 l2 l3 l4 l5 : Option Value} {s0 : Int32} {σ : ab_St} {Q : Option Value → ab_St → Prop} : Ev d 132 119 [l0, l1, l2, l3, l4, l5] [.int s0] σ Q = Q (some (.int s0)) σ := ev_E d132_119 rfl rfl rfl rfl rfl rfl rfl
/-! SaidLeastModel.sayIt(I)V -/
theorem d133_0 : decode (ab_C 133) 0 = .ok (.aload_n 0, 1) := by decide +kernel
theorem e133_0 {d : Nat} {l1 : Option Value} {x : Nat} {σ : ab_St} {Q : Option Value → ab_St → Prop} : Ev d 133 0 [some (.ref x), l1] [] σ Q = Ev d 133 1 [some (.ref x), l1] [.ref x] σ Q := ev_A1 d133_0 rfl
theorem d133_1 : decode (ab_C 133) 1 = .ok (.dup, 1) := by decide +kernel
theorem e133_1 {d : Nat} {l0 l1 : Option Value} {s0 : Nat} {σ : ab_St} {Q : Option Value → ab_St → Prop} : Ev d 133 1 [l0, l1] [.ref s0] σ Q = Ev d 133 2 [l0, l1] [.ref s0, .ref s0] σ Q := ev_A1 d133_1 rfl
theorem d133_2 : decode (ab_C 133) 2 = .ok (.getfield 147, 3) := by decide +kernel
theorem e133_2 {d : Nat} {l0 l1 : Option Value} {s0 : Nat} {s1 : Nat} {σ : ab_St} {Q : Option Value → ab_St → Prop} : Ev d 133 2 [l0, l1] [.ref s0, .ref s1] σ Q = (ab_k s0 = 10 ∧ Ev d 133 5 [l0, l1] [.int (σ.1 s0 29), .ref s1] σ Q) := ev_Hc (c := ab_k s0 = 10) d133_2 rfl rfl rfl rfl rfl rfl rfl rfl
theorem d133_5 : decode (ab_C 133) 5 = .ok (.iconst 1, 1) := by decide +kernel
theorem e133_5 {d : Nat} {l0 l1 : Option Value} {s0 : Int32} {s1 : Nat} {σ : ab_St} {Q : Option Value → ab_St → Prop} : Ev d 133 5 [l0, l1] [.int s0, .ref s1] σ Q = Ev d 133 6 [l0, l1] [.int 1, .int s0, .ref s1] σ Q := ev_A1 d133_5 rfl
theorem d133_6 : decode (ab_C 133) 6 = .ok (.iload_n 1, 1) := by decide +kernel
theorem e133_6 {d : Nat} {l0 : Option Value} {x : Int32} {s0 : Int32} {s1 : Int32} {s2 : Nat} {σ : ab_St} {Q : Option Value → ab_St → Prop} : Ev d 133 6 [l0, some (.int x)] [.int s0, .int s1, .ref s2] σ Q = Ev d 133 7 [l0, some (.int x)] [.int x, .int s0, .int s1, .ref s2] σ Q := ev_A1 d133_6 rfl
theorem d133_7 : decode (ab_C 133) 7 = .ok (.ishl, 1) := by decide +kernel
theorem e133_7 {d : Nat} {l0 l1 : Option Value} {s0 : Int32} {s1 : Int32} {s2 : Int32} {s3 : Nat} {σ : ab_St} {Q : Option Value → ab_St → Prop} : Ev d 133 7 [l0, l1] [.int s0, .int s1, .int s2, .ref s3] σ Q = Ev d 133 8 [l0, l1] [.int (s1 <<< (s0 &&& 31)), .int s2, .ref s3] σ Q := ev_A2 d133_7 rfl rfl
theorem d133_8 : decode (ab_C 133) 8 = .ok (.ior, 1) := by decide +kernel
theorem e133_8 {d : Nat} {l0 l1 : Option Value} {s0 : Int32} {s1 : Int32} {s2 : Nat} {σ : ab_St} {Q : Option Value → ab_St → Prop} : Ev d 133 8 [l0, l1] [.int s0, .int s1, .ref s2] σ Q = Ev d 133 9 [l0, l1] [.int (s1 ||| s0), .ref s2] σ Q := ev_A2 d133_8 rfl rfl
theorem d133_9 : decode (ab_C 133) 9 = .ok (.putfield 147, 3) := by decide +kernel
theorem e133_9 {d : Nat} {l0 l1 : Option Value} {s0 : Int32} {s1 : Nat} {σ : ab_St} {Q : Option Value → ab_St → Prop} : Ev d 133 9 [l0, l1] [.int s0, .ref s1] σ Q = (ab_k s1 = 10 ∧ Ev d 133 12 [l0, l1] [] (ab_wI σ s1 (upd (σ.1 s1) 29 s0)) Q) := ev_Hc (c := ab_k s1 = 10) d133_9 rfl rfl rfl rfl rfl rfl rfl rfl
theorem d133_12 : decode (ab_C 133) 12 = .ok (.aload_n 0, 1) := by decide +kernel
theorem e133_12 {d : Nat} {l1 : Option Value} {x : Nat} {σ : ab_St} {Q : Option Value → ab_St → Prop} : Ev d 133 12 [some (.ref x), l1] [] σ Q = Ev d 133 13 [some (.ref x), l1] [.ref x] σ Q := ev_A1 d133_12 rfl
theorem d133_13 : decode (ab_C 133) 13 = .ok (.getfield 57, 3) := by decide +kernel
theorem e133_13 {d : Nat} {l0 l1 : Option Value} {s0 : Nat} {σ : ab_St} {Q : Option Value → ab_St → Prop} : Ev d 133 13 [l0, l1] [.ref s0] σ Q = (ab_k s0 = 10 ∧ Ev d 133 16 [l0, l1] [.ref (ab_r s0 28)] σ Q) := ev_Hc (c := ab_k s0 = 10) d133_13 rfl rfl rfl rfl rfl rfl rfl rfl
theorem d133_16 : decode (ab_C 133) 16 = .ok (.aload_n 0, 1) := by decide +kernel
theorem e133_16 {d : Nat} {l1 : Option Value} {x : Nat} {s0 : Nat} {σ : ab_St} {Q : Option Value → ab_St → Prop} : Ev d 133 16 [some (.ref x), l1] [.ref s0] σ Q = Ev d 133 17 [some (.ref x), l1] [.ref x, .ref s0] σ Q := ev_A1 d133_16 rfl
theorem d133_17 : decode (ab_C 133) 17 = .ok (.getfield 16, 3) := by decide +kernel
theorem e133_17 {d : Nat} {l0 l1 : Option Value} {s0 : Nat} {s1 : Nat} {σ : ab_St} {Q : Option Value → ab_St → Prop} : Ev d 133 17 [l0, l1] [.ref s0, .ref s1] σ Q = (ab_k s0 = 10 ∧ Ev d 133 20 [l0, l1] [.ref (ab_r s0 9), .ref s1] σ Q) := ev_Hc (c := ab_k s0 = 10) d133_17 rfl rfl rfl rfl rfl rfl rfl rfl
theorem d133_20 : decode (ab_C 133) 20 = .ok (.iload_n 1, 1) := by decide +kernel
theorem e133_20 {d : Nat} {l0 : Option Value} {x : Int32} {s0 : Nat} {s1 : Nat} {σ : ab_St} {Q : Option Value → ab_St → Prop} : Ev d 133 20 [l0, some (.int x)] [.ref s0, .ref s1] σ Q = Ev d 133 21 [l0, some (.int x)] [.int x, .ref s0, .ref s1] σ Q := ev_A1 d133_20 rfl
theorem d133_21 : decode (ab_C 133) 21 = .ok (.iaload, 1) := by decide +kernel
theorem e133_21 {d : Nat} {l0 l1 : Option Value} {s0 : Int32} {s1 : Nat} {s2 : Nat} {σ : ab_St} {Q : Option Value → ab_St → Prop} : Ev d 133 21 [l0, l1] [.int s0, .ref s1, .ref s2] σ Q = ((ab_k s1 = 100 ∧ ab_in s0 (ab_n s1)) ∧ Ev d 133 22 [l0, l1] [.int (σ.1 s1 s0.toNatClampNeg), .ref s2] σ Q) := ev_Hc (c := ab_k s1 = 100 ∧ ab_in s0 (ab_n s1)) d133_21 rfl rfl rfl rfl rfl rfl rfl rfl
theorem d133_22 : decode (ab_C 133) 22 = .ok (.dup2, 1) := by decide +kernel
theorem e133_22 {d : Nat} {l0 l1 : Option Value} {s0 : Int32} {s1 : Nat} {σ : ab_St} {Q : Option Value → ab_St → Prop} : Ev d 133 22 [l0, l1] [.int s0, .ref s1] σ Q = Ev d 133 23 [l0, l1] [.int s0, .ref s1, .int s0, .ref s1] σ Q := ev_A1 d133_22 rfl
theorem d133_23 : decode (ab_C 133) 23 = .ok (.iaload, 1) := by decide +kernel
theorem e133_23 {d : Nat} {l0 l1 : Option Value} {s0 : Int32} {s1 : Nat} {s2 : Int32} {s3 : Nat} {σ : ab_St} {Q : Option Value → ab_St → Prop} : Ev d 133 23 [l0, l1] [.int s0, .ref s1, .int s2, .ref s3] σ Q = ((ab_k s1 = 100 ∧ ab_in s0 (ab_n s1)) ∧ Ev d 133 24 [l0, l1] [.int (σ.1 s1 s0.toNatClampNeg), .int s2, .ref s3] σ Q) := ev_Hc (c := ab_k s1 = 100 ∧ ab_in s0 (ab_n s1)) d133_23 rfl rfl rfl rfl rfl rfl rfl rfl
theorem d133_24 : decode (ab_C 133) 24 = .ok (.aload_n 0, 1) := by decide +kernel
theorem e133_24 {d : Nat} {l1 : Option Value} {x : Nat} {s0 : Int32} {s1 : Int32} {s2 : Nat} {σ : ab_St} {Q : Option Value → ab_St → Prop} : Ev d 133 24 [some (.ref x), l1] [.int s0, .int s1, .ref s2] σ Q = Ev d 133 25 [some (.ref x), l1] [.ref x, .int s0, .int s1, .ref s2] σ Q := ev_A1 d133_24 rfl
theorem d133_25 : decode (ab_C 133) 25 = .ok (.getfield 19, 3) := by decide +kernel
theorem e133_25 {d : Nat} {l0 l1 : Option Value} {s0 : Nat} {s1 : Int32} {s2 : Int32} {s3 : Nat} {σ : ab_St} {Q : Option Value → ab_St → Prop} : Ev d 133 25 [l0, l1] [.ref s0, .int s1, .int s2, .ref s3] σ Q = (ab_k s0 = 10 ∧ Ev d 133 28 [l0, l1] [.ref (ab_r s0 10), .int s1, .int s2, .ref s3] σ Q) := ev_Hc (c := ab_k s0 = 10) d133_25 rfl rfl rfl rfl rfl rfl rfl rfl
theorem d133_28 : decode (ab_C 133) 28 = .ok (.iload_n 1, 1) := by decide +kernel
theorem e133_28 {d : Nat} {l0 : Option Value} {x : Int32} {s0 : Nat} {s1 : Int32} {s2 : Int32} {s3 : Nat} {σ : ab_St} {Q : Option Value → ab_St → Prop} : Ev d 133 28 [l0, some (.int x)] [.ref s0, .int s1, .int s2, .ref s3] σ Q = Ev d 133 29 [l0, some (.int x)] [.int x, .ref s0, .int s1, .int s2, .ref s3] σ Q := ev_A1 d133_28 rfl
theorem d133_29 : decode (ab_C 133) 29 = .ok (.iaload, 1) := by decide +kernel
theorem e133_29 {d : Nat} {l0 l1 : Option Value} {s0 : Int32} {s1 : Nat} {s2 : Int32} {s3 : Int32} {s4 : Nat} {σ : ab_St} {Q : Option Value → ab_St → Prop} : Ev d 133 29 [l0, l1] [.int s0, .ref s1, .int s2, .int s3, .ref s4] σ Q = ((ab_k s1 = 100 ∧ ab_in s0 (ab_n s1)) ∧ Ev d 133 30 [l0, l1] [.int (σ.1 s1 s0.toNatClampNeg), .int s2, .int s3, .ref s4] σ Q) := ev_Hc (c := ab_k s1 = 100 ∧ ab_in s0 (ab_n s1)) d133_29 rfl rfl rfl rfl rfl rfl rfl rfl
theorem d133_30 : decode (ab_C 133) 30 = .ok (.iadd, 1) := by decide +kernel
theorem e133_30 {d : Nat} {l0 l1 : Option Value} {s0 : Int32} {s1 : Int32} {s2 : Int32} {s3 : Nat} {σ : ab_St} {Q : Option Value → ab_St → Prop} : Ev d 133 30 [l0, l1] [.int s0, .int s1, .int s2, .ref s3] σ Q = Ev d 133 31 [l0, l1] [.int (s1 + s0), .int s2, .ref s3] σ Q := ev_A2 d133_30 rfl rfl
theorem d133_31 : decode (ab_C 133) 31 = .ok (.iastore, 1) := by decide +kernel
theorem e133_31 {d : Nat} {l0 l1 : Option Value} {s0 : Int32} {s1 : Int32} {s2 : Nat} {σ : ab_St} {Q : Option Value → ab_St → Prop} : Ev d 133 31 [l0, l1] [.int s0, .int s1, .ref s2] σ Q = ((ab_k s2 = 100 ∧ ab_in s1 (ab_n s2)) ∧ Ev d 133 32 [l0, l1] [] (ab_wI σ s2 (upd (σ.1 s2) s1.toNatClampNeg s0)) Q) := ev_Hc (c := ab_k s2 = 100 ∧ ab_in s1 (ab_n s2)) d133_31 rfl rfl rfl rfl rfl rfl rfl rfl
theorem d133_32 : decode (ab_C 133) 32 = .ok (.aload_n 0, 1) := by decide +kernel
theorem e133_32 {d : Nat} {l1 : Option Value} {x : Nat} {σ : ab_St} {Q : Option Value → ab_St → Prop} : Ev d 133 32 [some (.ref x), l1] [] σ Q = Ev d 133 33 [some (.ref x), l1] [.ref x] σ Q := ev_A1 d133_32 rfl
theorem d133_33 : decode (ab_C 133) 33 = .ok (.iload_n 1, 1) := by decide +kernel
theorem e133_33 {d : Nat} {l0 : Option Value} {x : Int32} {s0 : Nat} {σ : ab_St} {Q : Option Value → ab_St → Prop} : Ev d 133 33 [l0, some (.int x)] [.ref s0] σ Q = Ev d 133 34 [l0, some (.int x)] [.int x, .ref s0] σ Q := ev_A1 d133_33 rfl
theorem d133_34 : decode (ab_C 133) 34 = .ok (.putfield 150, 3) := by decide +kernel
theorem e133_34 {d : Nat} {l0 l1 : Option Value} {s0 : Int32} {s1 : Nat} {σ : ab_St} {Q : Option Value → ab_St → Prop} : Ev d 133 34 [l0, l1] [.int s0, .ref s1] σ Q = (ab_k s1 = 10 ∧ Ev d 133 37 [l0, l1] [] (ab_wI σ s1 (upd (σ.1 s1) 30 s0)) Q) := ev_Hc (c := ab_k s1 = 10) d133_34 rfl rfl rfl rfl rfl rfl rfl rfl
theorem d133_37 : decode (ab_C 133) 37 = .ok (.return_, 1) := by decide +kernel
theorem e133_37 {d : Nat} {l0 l1 : Option Value} {σ : ab_St} {Q : Option Value → ab_St → Prop} : Ev d 133 37 [l0, l1] [] σ Q = Q none σ := ev_E d133_37 rfl rfl rfl rfl rfl rfl rfl
/-! SaidLeastModel.most(I)I -/
theorem d134_0 : decode (ab_C 134) 0 = .ok (.aload_n 0, 1) := by decide +kernel
theorem e134_0 {d : Nat} {l1 : Option Value} {x : Nat} {σ : ab_St} {Q : Option Value → ab_St → Prop} : Ev d 134 0 [some (.ref x), l1] [] σ Q = Ev d 134 1 [some (.ref x), l1] [.ref x] σ Q := ev_A1 d134_0 rfl
theorem d134_1 : decode (ab_C 134) 1 = .ok (.iconst 0, 1) := by decide +kernel
theorem e134_1 {d : Nat} {l0 l1 : Option Value} {s0 : Nat} {σ : ab_St} {Q : Option Value → ab_St → Prop} : Ev d 134 1 [l0, l1] [.ref s0] σ Q = Ev d 134 2 [l0, l1] [.int 0, .ref s0] σ Q := ev_A1 d134_1 rfl
theorem d134_2 : decode (ab_C 134) 2 = .ok (.putfield 79, 3) := by decide +kernel
theorem e134_2 {d : Nat} {l0 l1 : Option Value} {s0 : Int32} {s1 : Nat} {σ : ab_St} {Q : Option Value → ab_St → Prop} : Ev d 134 2 [l0, l1] [.int s0, .ref s1] σ Q = (ab_k s1 = 10 ∧ Ev d 134 5 [l0, l1] [] (ab_wI σ s1 (upd (σ.1 s1) 0 s0)) Q) := ev_Hc (c := ab_k s1 = 10) d134_2 rfl rfl rfl rfl rfl rfl rfl rfl
theorem d134_5 : decode (ab_C 134) 5 = .ok (.iload_n 1, 1) := by decide +kernel
theorem e134_5 {d : Nat} {l0 : Option Value} {x : Int32} {σ : ab_St} {Q : Option Value → ab_St → Prop} : Ev d 134 5 [l0, some (.int x)] [] σ Q = Ev d 134 6 [l0, some (.int x)] [.int x] σ Q := ev_A1 d134_5 rfl
theorem d134_6 : decode (ab_C 134) 6 = .ok (.i2l, 1) := by decide +kernel
theorem e134_6 {d : Nat} {l0 l1 : Option Value} {s0 : Int32} {σ : ab_St} {Q : Option Value → ab_St → Prop} : Ev d 134 6 [l0, l1] [.int s0] σ Q = Ev d 134 7 [l0, l1] [.long s0.toInt64] σ Q := ev_A2 d134_6 rfl rfl
theorem d134_7 : decode (ab_C 134) 7 = .ok (.lconst 0, 1) := by decide +kernel
theorem e134_7 {d : Nat} {l0 l1 : Option Value} {s0 : Int64} {σ : ab_St} {Q : Option Value → ab_St → Prop} : Ev d 134 7 [l0, l1] [.long s0] σ Q = Ev d 134 8 [l0, l1] [.long 0, .long s0] σ Q := ev_A1 d134_7 rfl
theorem d134_8 : decode (ab_C 134) 8 = .ok (.ldc2_w 204, 3) := by decide +kernel
theorem e134_8 {d : Nat} {l0 l1 : Option Value} {s0 : Int64} {s1 : Int64} {σ : ab_St} {Q : Option Value → ab_St → Prop} : Ev d 134 8 [l0, l1] [.long s0, .long s1] σ Q = Ev d 134 11 [l0, l1] [.long 72, .long s0, .long s1] σ Q := ev_A1 d134_8 rfl
theorem d134_11 : decode (ab_C 134) 11 = .ok (.invokestatic 85, 3) := by decide +kernel
theorem e134_11 {d : Nat} {l0 l1 : Option Value} {s0 : Int64} {s1 : Int64} {s2 : Int64} {σ : ab_St} {Q : Option Value → ab_St → Prop} : Ev (d + 1) 134 11 [l0, l1] [.long s0, .long s1, .long s2] σ Q = Ev d 101 0 [some (.long s2), none, some (.long s1), none, some (.long s0), none] [] σ (fun r σ2 => Ev (d + 1) 134 14 [l0, l1] (r.toList ++ []) σ2 Q) := ev_K0 (y := 101) (ls := [l0, l1]) (st := [.long s0, .long s1, .long s2]) (as := [.long s2, .long s1, .long s0]) (rest := []) d134_11 rfl rfl rfl rfl rfl rfl rfl rfl
theorem d134_14 : decode (ab_C 134) 14 = .ok (.ifCond .eq 13, 3) := by decide +kernel
theorem e134_14 {d : Nat} {l0 l1 : Option Value} {s0 : Int32} {σ : ab_St} {Q : Option Value → ab_St → Prop} : Ev d 134 14 [l0, l1] [.int s0] σ Q = if s0 = 0 then Ev d 134 27 [l0, l1] [] σ Q else Ev d 134 17 [l0, l1] [] σ Q := ev_B (c := s0 = 0) d134_14 rfl rfl rfl rfl rfl
theorem d134_17 : decode (ab_C 134) 17 = .ok (.aload_n 0, 1) := by decide +kernel
theorem e134_17 {d : Nat} {l1 : Option Value} {x : Nat} {σ : ab_St} {Q : Option Value → ab_St → Prop} : Ev d 134 17 [some (.ref x), l1] [] σ Q = Ev d 134 18 [some (.ref x), l1] [.ref x] σ Q := ev_A1 d134_17 rfl
theorem d134_18 : decode (ab_C 134) 18 = .ok (.iload_n 1, 1) := by decide +kernel
theorem e134_18 {d : Nat} {l0 : Option Value} {x : Int32} {s0 : Nat} {σ : ab_St} {Q : Option Value → ab_St → Prop} : Ev d 134 18 [l0, some (.int x)] [.ref s0] σ Q = Ev d 134 19 [l0, some (.int x)] [.int x, .ref s0] σ Q := ev_A1 d134_18 rfl
theorem d134_19 : decode (ab_C 134) 19 = .ok (.bipush (-9), 2) := by decide +kernel
theorem e134_19 {d : Nat} {l0 l1 : Option Value} {s0 : Int32} {s1 : Nat} {σ : ab_St} {Q : Option Value → ab_St → Prop} : Ev d 134 19 [l0, l1] [.int s0, .ref s1] σ Q = Ev d 134 21 [l0, l1] [.int (-9), .int s0, .ref s1] σ Q := ev_A1 d134_19 rfl
theorem d134_21 : decode (ab_C 134) 21 = .ok (.invokevirtual 206, 3) := by decide +kernel
theorem e134_21 {d : Nat} {l0 l1 : Option Value} {s0 : Int32} {s1 : Int32} {s2 : Nat} {σ : ab_St} {Q : Option Value → ab_St → Prop} : Ev (d + 1) 134 21 [l0, l1] [.int s0, .int s1, .ref s2] σ Q = (ab_k s2 = 10 ∧ Ev d 135 0 [some (.ref s2), some (.int s1), some (.int s0), none, none, none, none, none, none] [] σ (fun r σ2 => Ev (d + 1) 134 24 [l0, l1] (r.toList ++ []) σ2 Q)) := ev_KV (b := s2) (ls := [l0, l1]) (st := [.int s0, .int s1, .ref s2]) (as := [.int s1, .int s0]) (rest := []) d134_21 rfl rfl rfl (Nat.le_of_ble_eq_true rfl) (Nat.le_of_ble_eq_true rfl) (Nat.le_of_ble_eq_true rfl) rfl rfl rfl rfl rfl rfl rfl
theorem d134_24 : decode (ab_C 134) 24 = .ok (.goto 5, 3) := by decide +kernel
theorem e134_24 {d : Nat} {l0 l1 : Option Value} {s0 : Int32} {σ : ab_St} {Q : Option Value → ab_St → Prop} : Ev d 134 24 [l0, l1] [.int s0] σ Q = Ev d 134 29 [l0, l1] [.int s0] σ Q := ev_J d134_24 rfl rfl rfl rfl rfl
theorem d134_27 : decode (ab_C 134) 27 = .ok (.bipush (-2), 2) := by decide +kernel
theorem e134_27 {d : Nat} {l0 l1 : Option Value} {σ : ab_St} {Q : Option Value → ab_St → Prop} : Ev d 134 27 [l0, l1] [] σ Q = Ev d 134 29 [l0, l1] [.int (-2)] σ Q := ev_A1 d134_27 rfl
theorem d134_29 : decode (ab_C 134) 29 = .ok (.ireturn, 1) := by decide +kernel
theorem e134_29 {d : Nat} {l0 l1 : Option Value} {s0 : Int32} {σ : ab_St} {Q : Option Value → ab_St → Prop} : Ev d 134 29 [l0, l1] [.int s0] σ Q = Q (some (.int s0)) σ := ev_E d134_29 rfl rfl rfl rfl rfl rfl rfl
/-! SaidLeastModel.goOrders(II)I -/
theorem d135_0 : decode (ab_C 135) 0 = .ok (.iload_n 2, 1) := by decide +kernel
theorem e135_0 {d : Nat} {l0 l1 l3 l4 l5 l6 l7 l8 : Option Value} {x : Int32} {σ : ab_St} {Q : Option Value → ab_St → Prop} : Ev d 135 0 [l0, l1, some (.int x), l3, l4, l5, l6, l7, l8] [] σ Q = Ev d 135 1 [l0, l1, some (.int x), l3, l4, l5, l6, l7, l8] [.int x] σ Q := ev_A1 d135_0 rfl
theorem d135_1 : decode (ab_C 135) 1 = .ok (.bipush (-9), 2) := by decide +kernel
theorem e135_1 {d : Nat} {l0 l1 l2 l3 l4 l5 l6 l7 l8 : Option Value} {s0 : Int32} {σ : ab_St} {Q : Option Value → ab_St → Prop} : Ev d 135 1 [l0, l1, l2, l3, l4, l5, l6, l7, l8] [.int s0] σ Q = Ev d 135 3 [l0, l1, l2, l3, l4, l5, l6, l7, l8] [.int (-9), .int s0] σ Q := ev_A1 d135_1 rfl
theorem d135_3 : decode (ab_C 135) 3 = .ok (.if_icmp .ne 7, 3) := by decide +kernel
theorem e135_3 {d : Nat} {l0 l1 l2 l3 l4 l5 l6 l7 l8 : Option Value} {s0 : Int32} {s1 : Int32} {σ : ab_St} {Q : Option Value → ab_St → Prop} : Ev d 135 3 [l0, l1, l2, l3, l4, l5, l6, l7, l8] [.int s0, .int s1] σ Q = if s1 = s0 then Ev d 135 6 [l0, l1, l2, l3, l4, l5, l6, l7, l8] [] σ Q else Ev d 135 10 [l0, l1, l2, l3, l4, l5, l6, l7, l8] [] σ Q := ev_B (c := s1 = s0) d135_3 rfl rfl rfl rfl rfl
theorem d135_6 : decode (ab_C 135) 6 = .ok (.iconst 0, 1) := by decide +kernel
theorem e135_6 {d : Nat} {l0 l1 l2 l3 l4 l5 l6 l7 l8 : Option Value} {σ : ab_St} {Q : Option Value → ab_St → Prop} : Ev d 135 6 [l0, l1, l2, l3, l4, l5, l6, l7, l8] [] σ Q = Ev d 135 7 [l0, l1, l2, l3, l4, l5, l6, l7, l8] [.int 0] σ Q := ev_A1 d135_6 rfl
theorem d135_7 : decode (ab_C 135) 7 = .ok (.goto 5, 3) := by decide +kernel
theorem e135_7 {d : Nat} {l0 l1 l2 l3 l4 l5 l6 l7 l8 : Option Value} {s0 : Int32} {σ : ab_St} {Q : Option Value → ab_St → Prop} : Ev d 135 7 [l0, l1, l2, l3, l4, l5, l6, l7, l8] [.int s0] σ Q = Ev d 135 12 [l0, l1, l2, l3, l4, l5, l6, l7, l8] [.int s0] σ Q := ev_J d135_7 rfl rfl rfl rfl rfl
theorem d135_10 : decode (ab_C 135) 10 = .ok (.bipush (-9), 2) := by decide +kernel
theorem e135_10 {d : Nat} {l0 l1 l2 l3 l4 l5 l6 l7 l8 : Option Value} {σ : ab_St} {Q : Option Value → ab_St → Prop} : Ev d 135 10 [l0, l1, l2, l3, l4, l5, l6, l7, l8] [] σ Q = Ev d 135 12 [l0, l1, l2, l3, l4, l5, l6, l7, l8] [.int (-9)] σ Q := ev_A1 d135_10 rfl
theorem d135_12 : decode (ab_C 135) 12 = .ok (.istore_n 3, 1) := by decide +kernel
theorem e135_12 {d : Nat} {l0 l1 l2 l3 l4 l5 l6 l7 l8 : Option Value} {s0 : Int32} {σ : ab_St} {Q : Option Value → ab_St → Prop} : Ev d 135 12 [l0, l1, l2, l3, l4, l5, l6, l7, l8] [.int s0] σ Q = Ev d 135 13 [l0, l1, l2, some (.int s0), l4, l5, l6, l7, l8] [] σ Q := ev_S d135_12 rfl rfl rfl rfl
theorem d135_13 : decode (ab_C 135) 13 = .ok (.iconst 0, 1) := by decide +kernel
theorem e135_13 {d : Nat} {l0 l1 l2 l3 l4 l5 l6 l7 l8 : Option Value} {σ : ab_St} {Q : Option Value → ab_St → Prop} : Ev d 135 13 [l0, l1, l2, l3, l4, l5, l6, l7, l8] [] σ Q = Ev d 135 14 [l0, l1, l2, l3, l4, l5, l6, l7, l8] [.int 0] σ Q := ev_A1 d135_13 rfl
theorem d135_14 : decode (ab_C 135) 14 = .ok (.istore 4, 2) := by decide +kernel
theorem e135_14 {d : Nat} {l0 l1 l2 l3 l4 l5 l6 l7 l8 : Option Value} {s0 : Int32} {σ : ab_St} {Q : Option Value → ab_St → Prop} : Ev d 135 14 [l0, l1, l2, l3, l4, l5, l6, l7, l8] [.int s0] σ Q = Ev d 135 16 [l0, l1, l2, l3, some (.int s0), l5, l6, l7, l8] [] σ Q := ev_S d135_14 rfl rfl rfl rfl
theorem d135_16 : decode (ab_C 135) 16 = .ok (.iconst 0, 1) := by decide +kernel
theorem e135_16 {d : Nat} {l0 l1 l2 l3 l4 l5 l6 l7 l8 : Option Value} {σ : ab_St} {Q : Option Value → ab_St → Prop} : Ev d 135 16 [l0, l1, l2, l3, l4, l5, l6, l7, l8] [] σ Q = Ev d 135 17 [l0, l1, l2, l3, l4, l5, l6, l7, l8] [.int 0] σ Q := ev_A1 d135_16 rfl
theorem d135_17 : decode (ab_C 135) 17 = .ok (.istore 5, 2) := by decide +kernel
theorem e135_17 {d : Nat} {l0 l1 l2 l3 l4 l5 l6 l7 l8 : Option Value} {s0 : Int32} {σ : ab_St} {Q : Option Value → ab_St → Prop} : Ev d 135 17 [l0, l1, l2, l3, l4, l5, l6, l7, l8] [.int s0] σ Q = Ev d 135 19 [l0, l1, l2, l3, l4, some (.int s0), l6, l7, l8] [] σ Q := ev_S d135_17 rfl rfl rfl rfl
theorem d135_19 : decode (ab_C 135) 19 = .ok (.iconst 0, 1) := by decide +kernel
theorem e135_19 {d : Nat} {l0 l1 l2 l3 l4 l5 l6 l7 l8 : Option Value} {σ : ab_St} {Q : Option Value → ab_St → Prop} : Ev d 135 19 [l0, l1, l2, l3, l4, l5, l6, l7, l8] [] σ Q = Ev d 135 20 [l0, l1, l2, l3, l4, l5, l6, l7, l8] [.int 0] σ Q := ev_A1 d135_19 rfl
theorem d135_20 : decode (ab_C 135) 20 = .ok (.istore 6, 2) := by decide +kernel
theorem e135_20 {d : Nat} {l0 l1 l2 l3 l4 l5 l6 l7 l8 : Option Value} {s0 : Int32} {σ : ab_St} {Q : Option Value → ab_St → Prop} : Ev d 135 20 [l0, l1, l2, l3, l4, l5, l6, l7, l8] [.int s0] σ Q = Ev d 135 22 [l0, l1, l2, l3, l4, l5, some (.int s0), l7, l8] [] σ Q := ev_S d135_20 rfl rfl rfl rfl
theorem d135_22 : decode (ab_C 135) 22 = .ok (.aload_n 0, 1) := by decide +kernel
theorem e135_22 {d : Nat} {l1 l2 l3 l4 l5 l6 l7 l8 : Option Value} {x : Nat} {σ : ab_St} {Q : Option Value → ab_St → Prop} : Ev d 135 22 [some (.ref x), l1, l2, l3, l4, l5, l6, l7, l8] [] σ Q = Ev d 135 23 [some (.ref x), l1, l2, l3, l4, l5, l6, l7, l8] [.ref x] σ Q := ev_A1 d135_22 rfl
theorem d135_23 : decode (ab_C 135) 23 = .ok (.iconst 0, 1) := by decide +kernel
theorem e135_23 {d : Nat} {l0 l1 l2 l3 l4 l5 l6 l7 l8 : Option Value} {s0 : Nat} {σ : ab_St} {Q : Option Value → ab_St → Prop} : Ev d 135 23 [l0, l1, l2, l3, l4, l5, l6, l7, l8] [.ref s0] σ Q = Ev d 135 24 [l0, l1, l2, l3, l4, l5, l6, l7, l8] [.int 0, .ref s0] σ Q := ev_A1 d135_23 rfl
theorem d135_24 : decode (ab_C 135) 24 = .ok (.putfield 198, 3) := by decide +kernel
theorem e135_24 {d : Nat} {l0 l1 l2 l3 l4 l5 l6 l7 l8 : Option Value} {s0 : Int32} {s1 : Nat} {σ : ab_St} {Q : Option Value → ab_St → Prop} : Ev d 135 24 [l0, l1, l2, l3, l4, l5, l6, l7, l8] [.int s0, .ref s1] σ Q = (ab_k s1 = 10 ∧ Ev d 135 27 [l0, l1, l2, l3, l4, l5, l6, l7, l8] [] (ab_wI σ s1 (upd (σ.1 s1) 34 s0)) Q) := ev_Hc (c := ab_k s1 = 10) d135_24 rfl rfl rfl rfl rfl rfl rfl rfl
theorem d135_27 : decode (ab_C 135) 27 = .ok (.aload_n 0, 1) := by decide +kernel
theorem e135_27 {d : Nat} {l1 l2 l3 l4 l5 l6 l7 l8 : Option Value} {x : Nat} {σ : ab_St} {Q : Option Value → ab_St → Prop} : Ev d 135 27 [some (.ref x), l1, l2, l3, l4, l5, l6, l7, l8] [] σ Q = Ev d 135 28 [some (.ref x), l1, l2, l3, l4, l5, l6, l7, l8] [.ref x] σ Q := ev_A1 d135_27 rfl
theorem d135_28 : decode (ab_C 135) 28 = .ok (.invokevirtual 158, 3) := by decide +kernel
theorem e135_28 {d : Nat} {l0 l1 l2 l3 l4 l5 l6 l7 l8 : Option Value} {s0 : Nat} {σ : ab_St} {Q : Option Value → ab_St → Prop} : Ev (d + 1) 135 28 [l0, l1, l2, l3, l4, l5, l6, l7, l8] [.ref s0] σ Q = (ab_k s0 = 10 ∧ Ev d 112 0 [some (.ref s0), none] [] σ (fun r σ2 => Ev (d + 1) 135 31 [l0, l1, l2, l3, l4, l5, l6, l7, l8] (r.toList ++ []) σ2 Q)) := ev_KV (b := s0) (ls := [l0, l1, l2, l3, l4, l5, l6, l7, l8]) (st := [.ref s0]) (as := []) (rest := []) d135_28 rfl rfl rfl (Nat.le_of_ble_eq_true rfl) (Nat.le_of_ble_eq_true rfl) (Nat.le_of_ble_eq_true rfl) rfl rfl rfl rfl rfl rfl rfl
theorem d135_31 : decode (ab_C 135) 31 = .ok (.iload_n 2, 1) := by decide +kernel
theorem e135_31 {d : Nat} {l0 l1 l3 l4 l5 l6 l7 l8 : Option Value} {x : Int32} {σ : ab_St} {Q : Option Value → ab_St → Prop} : Ev d 135 31 [l0, l1, some (.int x), l3, l4, l5, l6, l7, l8] [] σ Q = Ev d 135 32 [l0, l1, some (.int x), l3, l4, l5, l6, l7, l8] [.int x] σ Q := ev_A1 d135_31 rfl
theorem d135_32 : decode (ab_C 135) 32 = .ok (.bipush (-9), 2) := by decide +kernel
theorem e135_32 {d : Nat} {l0 l1 l2 l3 l4 l5 l6 l7 l8 : Option Value} {s0 : Int32} {σ : ab_St} {Q : Option Value → ab_St → Prop} : Ev d 135 32 [l0, l1, l2, l3, l4, l5, l6, l7, l8] [.int s0] σ Q = Ev d 135 34 [l0, l1, l2, l3, l4, l5, l6, l7, l8] [.int (-9), .int s0] σ Q := ev_A1 d135_32 rfl
theorem d135_34 : decode (ab_C 135) 34 = .ok (.if_icmp .eq 13, 3) := by decide +kernel
theorem e135_34 {d : Nat} {l0 l1 l2 l3 l4 l5 l6 l7 l8 : Option Value} {s0 : Int32} {s1 : Int32} {σ : ab_St} {Q : Option Value → ab_St → Prop} : Ev d 135 34 [l0, l1, l2, l3, l4, l5, l6, l7, l8] [.int s0, .int s1] σ Q = if s1 = s0 then Ev d 135 47 [l0, l1, l2, l3, l4, l5, l6, l7, l8] [] σ Q else Ev d 135 37 [l0, l1, l2, l3, l4, l5, l6, l7, l8] [] σ Q := ev_B (c := s1 = s0) d135_34 rfl rfl rfl rfl rfl
theorem d135_37 : decode (ab_C 135) 37 = .ok (.aload_n 0, 1) := by decide +kernel
theorem e135_37 {d : Nat} {l1 l2 l3 l4 l5 l6 l7 l8 : Option Value} {x : Nat} {σ : ab_St} {Q : Option Value → ab_St → Prop} : Ev d 135 37 [some (.ref x), l1, l2, l3, l4, l5, l6, l7, l8] [] σ Q = Ev d 135 38 [some (.ref x), l1, l2, l3, l4, l5, l6, l7, l8] [.ref x] σ Q := ev_A1 d135_37 rfl
theorem d135_38 : decode (ab_C 135) 38 = .ok (.iload_n 2, 1) := by decide +kernel
theorem e135_38 {d : Nat} {l0 l1 l3 l4 l5 l6 l7 l8 : Option Value} {x : Int32} {s0 : Nat} {σ : ab_St} {Q : Option Value → ab_St → Prop} : Ev d 135 38 [l0, l1, some (.int x), l3, l4, l5, l6, l7, l8] [.ref s0] σ Q = Ev d 135 39 [l0, l1, some (.int x), l3, l4, l5, l6, l7, l8] [.int x, .ref s0] σ Q := ev_A1 d135_38 rfl
theorem d135_39 : decode (ab_C 135) 39 = .ok (.invokevirtual 175, 3) := by decide +kernel
theorem e135_39 {d : Nat} {l0 l1 l2 l3 l4 l5 l6 l7 l8 : Option Value} {s0 : Int32} {s1 : Nat} {σ : ab_St} {Q : Option Value → ab_St → Prop} : Ev (d + 1) 135 39 [l0, l1, l2, l3, l4, l5, l6, l7, l8] [.int s0, .ref s1] σ Q = (ab_k s1 = 10 ∧ Ev d 122 0 [some (.ref s1), some (.int s0)] [] σ (fun r σ2 => Ev (d + 1) 135 42 [l0, l1, l2, l3, l4, l5, l6, l7, l8] (r.toList ++ []) σ2 Q)) := ev_KV (b := s1) (ls := [l0, l1, l2, l3, l4, l5, l6, l7, l8]) (st := [.int s0, .ref s1]) (as := [.int s0]) (rest := []) d135_39 rfl rfl rfl (Nat.le_of_ble_eq_true rfl) (Nat.le_of_ble_eq_true rfl) (Nat.le_of_ble_eq_true rfl) rfl rfl rfl rfl rfl rfl rfl
theorem d135_42 : decode (ab_C 135) 42 = .ok (.ifCond .eq 5, 3) := by decide +kernel
theorem e135_42 {d : Nat} {l0 l1 l2 l3 l4 l5 l6 l7 l8 : Option Value} {s0 : Int32} {σ : ab_St} {Q : Option Value → ab_St → Prop} : Ev d 135 42 [l0, l1, l2, l3, l4, l5, l6, l7, l8] [.int s0] σ Q = if s0 = 0 then Ev d 135 47 [l0, l1, l2, l3, l4, l5, l6, l7, l8] [] σ Q else Ev d 135 45 [l0, l1, l2, l3, l4, l5, l6, l7, l8] [] σ Q := ev_B (c := s0 = 0) d135_42 rfl rfl rfl rfl rfl
theorem d135_45 : decode (ab_C 135) 45 = .ok (.iconst 0, 1) := by decide +kernel
theorem e135_45 {d : Nat} {l0 l1 l2 l3 l4 l5 l6 l7 l8 : Option Value} {σ : ab_St} {Q : Option Value → ab_St → Prop} : Ev d 135 45 [l0, l1, l2, l3, l4, l5, l6, l7, l8] [] σ Q = Ev d 135 46 [l0, l1, l2, l3, l4, l5, l6, l7, l8] [.int 0] σ Q := ev_A1 d135_45 rfl
theorem d135_46 : decode (ab_C 135) 46 = .ok (.ireturn, 1) := by decide +kernel
theorem e135_46 {d : Nat} {l0 l1 l2 l3 l4 l5 l6 l7 l8 : Option Value} {s0 : Int32} {σ : ab_St} {Q : Option Value → ab_St → Prop} : Ev d 135 46 [l0, l1, l2, l3, l4, l5, l6, l7, l8] [.int s0] σ Q = Q (some (.int s0)) σ := ev_E d135_46 rfl rfl rfl rfl rfl rfl rfl
theorem d135_47 : decode (ab_C 135) 47 = .ok (.aload_n 0, 1) := by decide +kernel
theorem e135_47 {d : Nat} {l1 l2 l3 l4 l5 l6 l7 l8 : Option Value} {x : Nat} {σ : ab_St} {Q : Option Value → ab_St → Prop} : Ev d 135 47 [some (.ref x), l1, l2, l3, l4, l5, l6, l7, l8] [] σ Q = Ev d 135 48 [some (.ref x), l1, l2, l3, l4, l5, l6, l7, l8] [.ref x] σ Q := ev_A1 d135_47 rfl
theorem d135_48 : decode (ab_C 135) 48 = .ok (.getfield 60, 3) := by decide +kernel
theorem e135_48 {d : Nat} {l0 l1 l2 l3 l4 l5 l6 l7 l8 : Option Value} {s0 : Nat} {σ : ab_St} {Q : Option Value → ab_St → Prop} : Ev d 135 48 [l0, l1, l2, l3, l4, l5, l6, l7, l8] [.ref s0] σ Q = (ab_k s0 = 10 ∧ Ev d 135 51 [l0, l1, l2, l3, l4, l5, l6, l7, l8] [.ref (ab_r s0 31)] σ Q) := ev_Hc (c := ab_k s0 = 10) d135_48 rfl rfl rfl rfl rfl rfl rfl rfl
theorem d135_51 : decode (ab_C 135) 51 = .ok (.iconst 0, 1) := by decide +kernel
theorem e135_51 {d : Nat} {l0 l1 l2 l3 l4 l5 l6 l7 l8 : Option Value} {s0 : Nat} {σ : ab_St} {Q : Option Value → ab_St → Prop} : Ev d 135 51 [l0, l1, l2, l3, l4, l5, l6, l7, l8] [.ref s0] σ Q = Ev d 135 52 [l0, l1, l2, l3, l4, l5, l6, l7, l8] [.int 0, .ref s0] σ Q := ev_A1 d135_51 rfl
theorem d135_52 : decode (ab_C 135) 52 = .ok (.bipush (-9), 2) := by decide +kernel
theorem e135_52 {d : Nat} {l0 l1 l2 l3 l4 l5 l6 l7 l8 : Option Value} {s0 : Int32} {s1 : Nat} {σ : ab_St} {Q : Option Value → ab_St → Prop} : Ev d 135 52 [l0, l1, l2, l3, l4, l5, l6, l7, l8] [.int s0, .ref s1] σ Q = Ev d 135 54 [l0, l1, l2, l3, l4, l5, l6, l7, l8] [.int (-9), .int s0, .ref s1] σ Q := ev_A1 d135_52 rfl
theorem d135_54 : decode (ab_C 135) 54 = .ok (.iastore, 1) := by decide +kernel
theorem e135_54 {d : Nat} {l0 l1 l2 l3 l4 l5 l6 l7 l8 : Option Value} {s0 : Int32} {s1 : Int32} {s2 : Nat} {σ : ab_St} {Q : Option Value → ab_St → Prop} : Ev d 135 54 [l0, l1, l2, l3, l4, l5, l6, l7, l8] [.int s0, .int s1, .ref s2] σ Q = ((ab_k s2 = 100 ∧ ab_in s1 (ab_n s2)) ∧ Ev d 135 55 [l0, l1, l2, l3, l4, l5, l6, l7, l8] [] (ab_wI σ s2 (upd (σ.1 s2) s1.toNatClampNeg s0)) Q) := ev_Hc (c := ab_k s2 = 100 ∧ ab_in s1 (ab_n s2)) d135_54 rfl rfl rfl rfl rfl rfl rfl rfl
theorem d135_55 : decode (ab_C 135) 55 = .ok (.iload 6, 2) := by decide +kernel
theorem e135_55 {d : Nat} {l0 l1 l2 l3 l4 l5 l7 l8 : Option Value} {x : Int32} {σ : ab_St} {Q : Option Value → ab_St → Prop} : Ev d 135 55 [l0, l1, l2, l3, l4, l5, some (.int x), l7, l8] [] σ Q = Ev d 135 57 [l0, l1, l2, l3, l4, l5, some (.int x), l7, l8] [.int x] σ Q := ev_A1 d135_55 rfl
theorem d135_57 : decode (ab_C 135) 57 = .ok (.ifCond .lt 280, 3) := by decide +kernel
theorem e135_57 {d : Nat} {l0 l1 l2 l3 l4 l5 l6 l7 l8 : Option Value} {s0 : Int32} {σ : ab_St} {Q : Option Value → ab_St → Prop} : Ev d 135 57 [l0, l1, l2, l3, l4, l5, l6, l7, l8] [.int s0] σ Q = if s0 < 0 then Ev d 135 337 [l0, l1, l2, l3, l4, l5, l6, l7, l8] [] σ Q else Ev d 135 60 [l0, l1, l2, l3, l4, l5, l6, l7, l8] [] σ Q := ev_B (c := s0 < 0) d135_57 rfl rfl rfl rfl rfl
theorem d135_60 : decode (ab_C 135) 60 = .ok (.aload_n 0, 1) := by decide +kernel
theorem e135_60 {d : Nat} {l1 l2 l3 l4 l5 l6 l7 l8 : Option Value} {x : Nat} {σ : ab_St} {Q : Option Value → ab_St → Prop} : Ev d 135 60 [some (.ref x), l1, l2, l3, l4, l5, l6, l7, l8] [] σ Q = Ev d 135 61 [some (.ref x), l1, l2, l3, l4, l5, l6, l7, l8] [.ref x] σ Q := ev_A1 d135_60 rfl
theorem d135_61 : decode (ab_C 135) 61 = .ok (.getfield 60, 3) := by decide +kernel
theorem e135_61 {d : Nat} {l0 l1 l2 l3 l4 l5 l6 l7 l8 : Option Value} {s0 : Nat} {σ : ab_St} {Q : Option Value → ab_St → Prop} : Ev d 135 61 [l0, l1, l2, l3, l4, l5, l6, l7, l8] [.ref s0] σ Q = (ab_k s0 = 10 ∧ Ev d 135 64 [l0, l1, l2, l3, l4, l5, l6, l7, l8] [.ref (ab_r s0 31)] σ Q) := ev_Hc (c := ab_k s0 = 10) d135_61 rfl rfl rfl rfl rfl rfl rfl rfl
theorem d135_64 : decode (ab_C 135) 64 = .ok (.iload 6, 2) := by decide +kernel
theorem e135_64 {d : Nat} {l0 l1 l2 l3 l4 l5 l7 l8 : Option Value} {x : Int32} {s0 : Nat} {σ : ab_St} {Q : Option Value → ab_St → Prop} : Ev d 135 64 [l0, l1, l2, l3, l4, l5, some (.int x), l7, l8] [.ref s0] σ Q = Ev d 135 66 [l0, l1, l2, l3, l4, l5, some (.int x), l7, l8] [.int x, .ref s0] σ Q := ev_A1 d135_64 rfl
theorem d135_66 : decode (ab_C 135) 66 = .ok (.iaload, 1) := by decide +kernel
theorem e135_66 {d : Nat} {l0 l1 l2 l3 l4 l5 l6 l7 l8 : Option Value} {s0 : Int32} {s1 : Nat} {σ : ab_St} {Q : Option Value → ab_St → Prop} : Ev d 135 66 [l0, l1, l2, l3, l4, l5, l6, l7, l8] [.int s0, .ref s1] σ Q = ((ab_k s1 = 100 ∧ ab_in s0 (ab_n s1)) ∧ Ev d 135 67 [l0, l1, l2, l3, l4, l5, l6, l7, l8] [.int (σ.1 s1 s0.toNatClampNeg)] σ Q) := ev_Hc (c := ab_k s1 = 100 ∧ ab_in s0 (ab_n s1)) d135_66 rfl rfl rfl rfl rfl rfl rfl rfl
theorem d135_67 : decode (ab_C 135) 67 = .ok (.bipush (-9), 2) := by decide +kernel
theorem e135_67 {d : Nat} {l0 l1 l2 l3 l4 l5 l6 l7 l8 : Option Value} {s0 : Int32} {σ : ab_St} {Q : Option Value → ab_St → Prop} : Ev d 135 67 [l0, l1, l2, l3, l4, l5, l6, l7, l8] [.int s0] σ Q = Ev d 135 69 [l0, l1, l2, l3, l4, l5, l6, l7, l8] [.int (-9), .int s0] σ Q := ev_A1 d135_67 rfl
theorem d135_69 : decode (ab_C 135) 69 = .ok (.if_icmp .ne 7, 3) := by decide +kernel
theorem e135_69 {d : Nat} {l0 l1 l2 l3 l4 l5 l6 l7 l8 : Option Value} {s0 : Int32} {s1 : Int32} {σ : ab_St} {Q : Option Value → ab_St → Prop} : Ev d 135 69 [l0, l1, l2, l3, l4, l5, l6, l7, l8] [.int s0, .int s1] σ Q = if s1 = s0 then Ev d 135 72 [l0, l1, l2, l3, l4, l5, l6, l7, l8] [] σ Q else Ev d 135 76 [l0, l1, l2, l3, l4, l5, l6, l7, l8] [] σ Q := ev_B (c := s1 = s0) d135_69 rfl rfl rfl rfl rfl
theorem d135_72 : decode (ab_C 135) 72 = .ok (.iconst 0, 1) := by decide +kernel
theorem e135_72 {d : Nat} {l0 l1 l2 l3 l4 l5 l6 l7 l8 : Option Value} {σ : ab_St} {Q : Option Value → ab_St → Prop} : Ev d 135 72 [l0, l1, l2, l3, l4, l5, l6, l7, l8] [] σ Q = Ev d 135 73 [l0, l1, l2, l3, l4, l5, l6, l7, l8] [.int 0] σ Q := ev_A1 d135_72 rfl
theorem d135_73 : decode (ab_C 135) 73 = .ok (.goto 12, 3) := by decide +kernel
theorem e135_73 {d : Nat} {l0 l1 l2 l3 l4 l5 l6 l7 l8 : Option Value} {s0 : Int32} {σ : ab_St} {Q : Option Value → ab_St → Prop} : Ev d 135 73 [l0, l1, l2, l3, l4, l5, l6, l7, l8] [.int s0] σ Q = Ev d 135 85 [l0, l1, l2, l3, l4, l5, l6, l7, l8] [.int s0] σ Q := ev_J d135_73 rfl rfl rfl rfl rfl
theorem d135_76 : decode (ab_C 135) 76 = .ok (.aload_n 0, 1) := by decide +kernel
theorem e135_76 {d : Nat} {l1 l2 l3 l4 l5 l6 l7 l8 : Option Value} {x : Nat} {σ : ab_St} {Q : Option Value → ab_St → Prop} : Ev d 135 76 [some (.ref x), l1, l2, l3, l4, l5, l6, l7, l8] [] σ Q = Ev d 135 77 [some (.ref x), l1, l2, l3, l4, l5, l6, l7, l8] [.ref x] σ Q := ev_A1 d135_76 rfl
theorem d135_77 : decode (ab_C 135) 77 = .ok (.getfield 60, 3) := by decide +kernel
theorem e135_77 {d : Nat} {l0 l1 l2 l3 l4 l5 l6 l7 l8 : Option Value} {s0 : Nat} {σ : ab_St} {Q : Option Value → ab_St → Prop} : Ev d 135 77 [l0, l1, l2, l3, l4, l5, l6, l7, l8] [.ref s0] σ Q = (ab_k s0 = 10 ∧ Ev d 135 80 [l0, l1, l2, l3, l4, l5, l6, l7, l8] [.ref (ab_r s0 31)] σ Q) := ev_Hc (c := ab_k s0 = 10) d135_77 rfl rfl rfl rfl rfl rfl rfl rfl
theorem d135_80 : decode (ab_C 135) 80 = .ok (.iload 6, 2) := by decide +kernel
theorem e135_80 {d : Nat} {l0 l1 l2 l3 l4 l5 l7 l8 : Option Value} {x : Int32} {s0 : Nat} {σ : ab_St} {Q : Option Value → ab_St → Prop} : Ev d 135 80 [l0, l1, l2, l3, l4, l5, some (.int x), l7, l8] [.ref s0] σ Q = Ev d 135 82 [l0, l1, l2, l3, l4, l5, some (.int x), l7, l8] [.int x, .ref s0] σ Q := ev_A1 d135_80 rfl
theorem d135_82 : decode (ab_C 135) 82 = .ok (.iaload, 1) := by decide +kernel
theorem e135_82 {d : Nat} {l0 l1 l2 l3 l4 l5 l6 l7 l8 : Option Value} {s0 : Int32} {s1 : Nat} {σ : ab_St} {Q : Option Value → ab_St → Prop} : Ev d 135 82 [l0, l1, l2, l3, l4, l5, l6, l7, l8] [.int s0, .ref s1] σ Q = ((ab_k s1 = 100 ∧ ab_in s0 (ab_n s1)) ∧ Ev d 135 83 [l0, l1, l2, l3, l4, l5, l6, l7, l8] [.int (σ.1 s1 s0.toNatClampNeg)] σ Q) := ev_Hc (c := ab_k s1 = 100 ∧ ab_in s0 (ab_n s1)) d135_82 rfl rfl rfl rfl rfl rfl rfl rfl
theorem d135_83 : decode (ab_C 135) 83 = .ok (.iconst 1, 1) := by decide +kernel
theorem e135_83 {d : Nat} {l0 l1 l2 l3 l4 l5 l6 l7 l8 : Option Value} {s0 : Int32} {σ : ab_St} {Q : Option Value → ab_St → Prop} : Ev d 135 83 [l0, l1, l2, l3, l4, l5, l6, l7, l8] [.int s0] σ Q = Ev d 135 84 [l0, l1, l2, l3, l4, l5, l6, l7, l8] [.int 1, .int s0] σ Q := ev_A1 d135_83 rfl
theorem d135_84 : decode (ab_C 135) 84 = .ok (.iadd, 1) := by decide +kernel
theorem e135_84 {d : Nat} {l0 l1 l2 l3 l4 l5 l6 l7 l8 : Option Value} {s0 : Int32} {s1 : Int32} {σ : ab_St} {Q : Option Value → ab_St → Prop} : Ev d 135 84 [l0, l1, l2, l3, l4, l5, l6, l7, l8] [.int s0, .int s1] σ Q = Ev d 135 85 [l0, l1, l2, l3, l4, l5, l6, l7, l8] [.int (s1 + s0)] σ Q := ev_A2 d135_84 rfl rfl
theorem d135_85 : decode (ab_C 135) 85 = .ok (.istore 7, 2) := by decide +kernel
theorem e135_85 {d : Nat} {l0 l1 l2 l3 l4 l5 l6 l7 l8 : Option Value} {s0 : Int32} {σ : ab_St} {Q : Option Value → ab_St → Prop} : Ev d 135 85 [l0, l1, l2, l3, l4, l5, l6, l7, l8] [.int s0] σ Q = Ev d 135 87 [l0, l1, l2, l3, l4, l5, l6, some (.int s0), l8] [] σ Q := ev_S d135_85 rfl rfl rfl rfl
theorem d135_87 : decode (ab_C 135) 87 = .ok (.iload 7, 2) := by decide +kernel
theorem e135_87 {d : Nat} {l0 l1 l2 l3 l4 l5 l6 l8 : Option Value} {x : Int32} {σ : ab_St} {Q : Option Value → ab_St → Prop} : Ev d 135 87 [l0, l1, l2, l3, l4, l5, l6, some (.int x), l8] [] σ Q = Ev d 135 89 [l0, l1, l2, l3, l4, l5, l6, some (.int x), l8] [.int x] σ Q := ev_A1 d135_87 rfl
theorem d135_89 : decode (ab_C 135) 89 = .ok (.aload_n 0, 1) := by decide +kernel
theorem e135_89 {d : Nat} {l1 l2 l3 l4 l5 l6 l7 l8 : Option Value} {x : Nat} {s0 : Int32} {σ : ab_St} {Q : Option Value → ab_St → Prop} : Ev d 135 89 [some (.ref x), l1, l2, l3, l4, l5, l6, l7, l8] [.int s0] σ Q = Ev d 135 90 [some (.ref x), l1, l2, l3, l4, l5, l6, l7, l8] [.ref x, .int s0] σ Q := ev_A1 d135_89 rfl
theorem d135_90 : decode (ab_C 135) 90 = .ok (.getfield 89, 3) := by decide +kernel
theorem e135_90 {d : Nat} {l0 l1 l2 l3 l4 l5 l6 l7 l8 : Option Value} {s0 : Nat} {s1 : Int32} {σ : ab_St} {Q : Option Value → ab_St → Prop} : Ev d 135 90 [l0, l1, l2, l3, l4, l5, l6, l7, l8] [.ref s0, .int s1] σ Q = (ab_k s0 = 10 ∧ Ev d 135 93 [l0, l1, l2, l3, l4, l5, l6, l7, l8] [.int (σ.1 s0 8), .int s1] σ Q) := ev_Hc (c := ab_k s0 = 10) d135_90 rfl rfl rfl rfl rfl rfl rfl rfl
theorem d135_93 : decode (ab_C 135) 93 = .ok (.if_icmp .ge 38, 3) := by decide +kernel
theorem e135_93 {d : Nat} {l0 l1 l2 l3 l4 l5 l6 l7 l8 : Option Value} {s0 : Int32} {s1 : Int32} {σ : ab_St} {Q : Option Value → ab_St → Prop} : Ev d 135 93 [l0, l1, l2, l3, l4, l5, l6, l7, l8] [.int s0, .int s1] σ Q = if s0 ≤ s1 then Ev d 135 131 [l0, l1, l2, l3, l4, l5, l6, l7, l8] [] σ Q else Ev d 135 96 [l0, l1, l2, l3, l4, l5, l6, l7, l8] [] σ Q := ev_B (c := s0 ≤ s1) d135_93 rfl rfl rfl rfl rfl
theorem d135_96 : decode (ab_C 135) 96 = .ok (.iload 7, 2) := by decide +kernel
theorem e135_96 {d : Nat} {l0 l1 l2 l3 l4 l5 l6 l8 : Option Value} {x : Int32} {σ : ab_St} {Q : Option Value → ab_St → Prop} : Ev d 135 96 [l0, l1, l2, l3, l4, l5, l6, some (.int x), l8] [] σ Q = Ev d 135 98 [l0, l1, l2, l3, l4, l5, l6, some (.int x), l8] [.int x] σ Q := ev_A1 d135_96 rfl
theorem d135_98 : decode (ab_C 135) 98 = .ok (.iload_n 2, 1) := by decide +kernel
theorem e135_98 {d : Nat} {l0 l1 l3 l4 l5 l6 l7 l8 : Option Value} {x : Int32} {s0 : Int32} {σ : ab_St} {Q : Option Value → ab_St → Prop} : Ev d 135 98 [l0, l1, some (.int x), l3, l4, l5, l6, l7, l8] [.int s0] σ Q = Ev d 135 99 [l0, l1, some (.int x), l3, l4, l5, l6, l7, l8] [.int x, .int s0] σ Q := ev_A1 d135_98 rfl
theorem d135_99 : decode (ab_C 135) 99 = .ok (.if_icmp .eq 26, 3) := by decide +kernel
theorem e135_99 {d : Nat} {l0 l1 l2 l3 l4 l5 l6 l7 l8 : Option Value} {s0 : Int32} {s1 : Int32} {σ : ab_St} {Q : Option Value → ab_St → Prop} : Ev d 135 99 [l0, l1, l2, l3, l4, l5, l6, l7, l8] [.int s0, .int s1] σ Q = if s1 = s0 then Ev d 135 125 [l0, l1, l2, l3, l4, l5, l6, l7, l8] [] σ Q else Ev d 135 102 [l0, l1, l2, l3, l4, l5, l6, l7, l8] [] σ Q := ev_B (c := s1 = s0) d135_99 rfl rfl rfl rfl rfl
theorem d135_102 : decode (ab_C 135) 102 = .ok (.aload_n 0, 1) := by decide +kernel
theorem e135_102 {d : Nat} {l1 l2 l3 l4 l5 l6 l7 l8 : Option Value} {x : Nat} {σ : ab_St} {Q : Option Value → ab_St → Prop} : Ev d 135 102 [some (.ref x), l1, l2, l3, l4, l5, l6, l7, l8] [] σ Q = Ev d 135 103 [some (.ref x), l1, l2, l3, l4, l5, l6, l7, l8] [.ref x] σ Q := ev_A1 d135_102 rfl
theorem d135_103 : decode (ab_C 135) 103 = .ok (.iload 7, 2) := by decide +kernel
theorem e135_103 {d : Nat} {l0 l1 l2 l3 l4 l5 l6 l8 : Option Value} {x : Int32} {s0 : Nat} {σ : ab_St} {Q : Option Value → ab_St → Prop} : Ev d 135 103 [l0, l1, l2, l3, l4, l5, l6, some (.int x), l8] [.ref s0] σ Q = Ev d 135 105 [l0, l1, l2, l3, l4, l5, l6, some (.int x), l8] [.int x, .ref s0] σ Q := ev_A1 d135_103 rfl
theorem d135_105 : decode (ab_C 135) 105 = .ok (.invokevirtual 175, 3) := by decide +kernel
theorem e135_105 {d : Nat} {l0 l1 l2 l3 l4 l5 l6 l7 l8 : Option Value} {s0 : Int32} {s1 : Nat} {σ : ab_St} {Q : Option Value → ab_St → Prop} : Ev (d + 1) 135 105 [l0, l1, l2, l3, l4, l5, l6, l7, l8] [.int s0, .ref s1] σ Q = (ab_k s1 = 10 ∧ Ev d 122 0 [some (.ref s1), some (.int s0)] [] σ (fun r σ2 => Ev (d + 1) 135 108 [l0, l1, l2, l3, l4, l5, l6, l7, l8] (r.toList ++ []) σ2 Q)) := ev_KV (b := s1) (ls := [l0, l1, l2, l3, l4, l5, l6, l7, l8]) (st := [.int s0, .ref s1]) (as := [.int s0]) (rest := []) d135_105 rfl rfl rfl (Nat.le_of_ble_eq_true rfl) (Nat.le_of_ble_eq_true rfl) (Nat.le_of_ble_eq_true rfl) rfl rfl rfl rfl rfl rfl rfl
theorem d135_108 : decode (ab_C 135) 108 = .ok (.ifCond .eq 17, 3) := by decide +kernel
theorem e135_108 {d : Nat} {l0 l1 l2 l3 l4 l5 l6 l7 l8 : Option Value} {s0 : Int32} {σ : ab_St} {Q : Option Value → ab_St → Prop} : Ev d 135 108 [l0, l1, l2, l3, l4, l5, l6, l7, l8] [.int s0] σ Q = if s0 = 0 then Ev d 135 125 [l0, l1, l2, l3, l4, l5, l6, l7, l8] [] σ Q else Ev d 135 111 [l0, l1, l2, l3, l4, l5, l6, l7, l8] [] σ Q := ev_B (c := s0 = 0) d135_108 rfl rfl rfl rfl rfl
theorem d135_111 : decode (ab_C 135) 111 = .ok (.iload 4, 2) := by decide +kernel
theorem e135_111 {d : Nat} {l0 l1 l2 l3 l5 l6 l7 l8 : Option Value} {x : Int32} {σ : ab_St} {Q : Option Value → ab_St → Prop} : Ev d 135 111 [l0, l1, l2, l3, some (.int x), l5, l6, l7, l8] [] σ Q = Ev d 135 113 [l0, l1, l2, l3, some (.int x), l5, l6, l7, l8] [.int x] σ Q := ev_A1 d135_111 rfl
theorem d135_113 : decode (ab_C 135) 113 = .ok (.aload_n 0, 1) := by decide +kernel
theorem e135_113 {d : Nat} {l1 l2 l3 l4 l5 l6 l7 l8 : Option Value} {x : Nat} {s0 : Int32} {σ : ab_St} {Q : Option Value → ab_St → Prop} : Ev d 135 113 [some (.ref x), l1, l2, l3, l4, l5, l6, l7, l8] [.int s0] σ Q = Ev d 135 114 [some (.ref x), l1, l2, l3, l4, l5, l6, l7, l8] [.ref x, .int s0] σ Q := ev_A1 d135_113 rfl
theorem d135_114 : decode (ab_C 135) 114 = .ok (.getfield 19, 3) := by decide +kernel
theorem e135_114 {d : Nat} {l0 l1 l2 l3 l4 l5 l6 l7 l8 : Option Value} {s0 : Nat} {s1 : Int32} {σ : ab_St} {Q : Option Value → ab_St → Prop} : Ev d 135 114 [l0, l1, l2, l3, l4, l5, l6, l7, l8] [.ref s0, .int s1] σ Q = (ab_k s0 = 10 ∧ Ev d 135 117 [l0, l1, l2, l3, l4, l5, l6, l7, l8] [.ref (ab_r s0 10), .int s1] σ Q) := ev_Hc (c := ab_k s0 = 10) d135_114 rfl rfl rfl rfl rfl rfl rfl rfl
theorem d135_117 : decode (ab_C 135) 117 = .ok (.iload 7, 2) := by decide +kernel
theorem e135_117 {d : Nat} {l0 l1 l2 l3 l4 l5 l6 l8 : Option Value} {x : Int32} {s0 : Nat} {s1 : Int32} {σ : ab_St} {Q : Option Value → ab_St → Prop} : Ev d 135 117 [l0, l1, l2, l3, l4, l5, l6, some (.int x), l8] [.ref s0, .int s1] σ Q = Ev d 135 119 [l0, l1, l2, l3, l4, l5, l6, some (.int x), l8] [.int x, .ref s0, .int s1] σ Q := ev_A1 d135_117 rfl
theorem d135_119 : decode (ab_C 135) 119 = .ok (.iaload, 1) := by decide +kernel
theorem e135_119 {d : Nat} {l0 l1 l2 l3 l4 l5 l6 l7 l8 : Option Value} {s0 : Int32} {s1 : Nat} {s2 : Int32} {σ : ab_St} {Q : Option Value → ab_St → Prop} : Ev d 135 119 [l0, l1, l2, l3, l4, l5, l6, l7, l8] [.int s0, .ref s1, .int s2] σ Q = ((ab_k s1 = 100 ∧ ab_in s0 (ab_n s1)) ∧ Ev d 135 120 [l0, l1, l2, l3, l4, l5, l6, l7, l8] [.int (σ.1 s1 s0.toNatClampNeg), .int s2] σ Q) := ev_Hc (c := ab_k s1 = 100 ∧ ab_in s0 (ab_n s1)) d135_119 rfl rfl rfl rfl rfl rfl rfl rfl
theorem d135_120 : decode (ab_C 135) 120 = .ok (.iadd, 1) := by decide +kernel
theorem e135_120 {d : Nat} {l0 l1 l2 l3 l4 l5 l6 l7 l8 : Option Value} {s0 : Int32} {s1 : Int32} {σ : ab_St} {Q : Option Value → ab_St → Prop} : Ev d 135 120 [l0, l1, l2, l3, l4, l5, l6, l7, l8] [.int s0, .int s1] σ Q = Ev d 135 121 [l0, l1, l2, l3, l4, l5, l6, l7, l8] [.int (s1 + s0)] σ Q := ev_A2 d135_120 rfl rfl
theorem d135_121 : decode (ab_C 135) 121 = .ok (.iload_n 1, 1) := by decide +kernel
theorem e135_121 {d : Nat} {l0 l2 l3 l4 l5 l6 l7 l8 : Option Value} {x : Int32} {s0 : Int32} {σ : ab_St} {Q : Option Value → ab_St → Prop} : Ev d 135 121 [l0, some (.int x), l2, l3, l4, l5, l6, l7, l8] [.int s0] σ Q = Ev d 135 122 [l0, some (.int x), l2, l3, l4, l5, l6, l7, l8] [.int x, .int s0] σ Q := ev_A1 d135_121 rfl
theorem d135_122 : decode (ab_C 135) 122 = .ok (.if_icmp .le 9, 3) := by decide +kernel
theorem e135_122 {d : Nat} {l0 l1 l2 l3 l4 l5 l6 l7 l8 : Option Value} {s0 : Int32} {s1 : Int32} {σ : ab_St} {Q : Option Value → ab_St → Prop} : Ev d 135 122 [l0, l1, l2, l3, l4, l5, l6, l7, l8] [.int s0, .int s1] σ Q = if s1 ≤ s0 then Ev d 135 131 [l0, l1, l2, l3, l4, l5, l6, l7, l8] [] σ Q else Ev d 135 125 [l0, l1, l2, l3, l4, l5, l6, l7, l8] [] σ Q := ev_B (c := s1 ≤ s0) d135_122 rfl rfl rfl rfl rfl
theorem d135_125 : decode (ab_C 135) 125 = .ok (.iinc 7 1, 3) := by decide +kernel
theorem e135_125 {d : Nat} {l0 l1 l2 l3 l4 l5 l6 l8 : Option Value} {x : Int32} {σ : ab_St} {Q : Option Value → ab_St → Prop} : Ev d 135 125 [l0, l1, l2, l3, l4, l5, l6, some (.int x), l8] [] σ Q = Ev d 135 128 [l0, l1, l2, l3, l4, l5, l6, some (.int (x + 1)), l8] [] σ Q := ev_S d135_125 rfl rfl rfl rfl
theorem d135_128 : decode (ab_C 135) 128 = .ok (.goto (-41), 3) := by decide +kernel
theorem e135_128 {d : Nat} {l0 l1 l2 l3 l4 l5 l6 l7 l8 : Option Value} {σ : ab_St} {Q : Option Value → ab_St → Prop} : Ev d 135 128 [l0, l1, l2, l3, l4, l5, l6, l7, l8] [] σ Q = Ev d 135 87 [l0, l1, l2, l3, l4, l5, l6, l7, l8] [] σ Q := ev_J d135_128 rfl rfl rfl rfl rfl
theorem d135_131 : decode (ab_C 135) 131 = .ok (.iload 7, 2) := by decide +kernel
theorem e135_131 {d : Nat} {l0 l1 l2 l3 l4 l5 l6 l8 : Option Value} {x : Int32} {σ : ab_St} {Q : Option Value → ab_St → Prop} : Ev d 135 131 [l0, l1, l2, l3, l4, l5, l6, some (.int x), l8] [] σ Q = Ev d 135 133 [l0, l1, l2, l3, l4, l5, l6, some (.int x), l8] [.int x] σ Q := ev_A1 d135_131 rfl
theorem d135_133 : decode (ab_C 135) 133 = .ok (.aload_n 0, 1) := by decide +kernel
theorem e135_133 {d : Nat} {l1 l2 l3 l4 l5 l6 l7 l8 : Option Value} {x : Nat} {s0 : Int32} {σ : ab_St} {Q : Option Value → ab_St → Prop} : Ev d 135 133 [some (.ref x), l1, l2, l3, l4, l5, l6, l7, l8] [.int s0] σ Q = Ev d 135 134 [some (.ref x), l1, l2, l3, l4, l5, l6, l7, l8] [.ref x, .int s0] σ Q := ev_A1 d135_133 rfl
theorem d135_134 : decode (ab_C 135) 134 = .ok (.getfield 89, 3) := by decide +kernel
theorem e135_134 {d : Nat} {l0 l1 l2 l3 l4 l5 l6 l7 l8 : Option Value} {s0 : Nat} {s1 : Int32} {σ : ab_St} {Q : Option Value → ab_St → Prop} : Ev d 135 134 [l0, l1, l2, l3, l4, l5, l6, l7, l8] [.ref s0, .int s1] σ Q = (ab_k s0 = 10 ∧ Ev d 135 137 [l0, l1, l2, l3, l4, l5, l6, l7, l8] [.int (σ.1 s0 8), .int s1] σ Q) := ev_Hc (c := ab_k s0 = 10) d135_134 rfl rfl rfl rfl rfl rfl rfl rfl
theorem d135_137 : decode (ab_C 135) 137 = .ok (.if_icmp .ne 54, 3) := by decide +kernel
theorem e135_137 {d : Nat} {l0 l1 l2 l3 l4 l5 l6 l7 l8 : Option Value} {s0 : Int32} {s1 : Int32} {σ : ab_St} {Q : Option Value → ab_St → Prop} : Ev d 135 137 [l0, l1, l2, l3, l4, l5, l6, l7, l8] [.int s0, .int s1] σ Q = if s1 = s0 then Ev d 135 140 [l0, l1, l2, l3, l4, l5, l6, l7, l8] [] σ Q else Ev d 135 191 [l0, l1, l2, l3, l4, l5, l6, l7, l8] [] σ Q := ev_B (c := s1 = s0) d135_137 rfl rfl rfl rfl rfl
theorem d135_140 : decode (ab_C 135) 140 = .ok (.iinc 6 (-1), 3) := by decide +kernel
theorem e135_140 {d : Nat} {l0 l1 l2 l3 l4 l5 l7 l8 : Option Value} {x : Int32} {σ : ab_St} {Q : Option Value → ab_St → Prop} : Ev d 135 140 [l0, l1, l2, l3, l4, l5, some (.int x), l7, l8] [] σ Q = Ev d 135 143 [l0, l1, l2, l3, l4, l5, some (.int (x + (-1))), l7, l8] [] σ Q := ev_S d135_140 rfl rfl rfl rfl
theorem d135_143 : decode (ab_C 135) 143 = .ok (.iload 6, 2) := by decide +kernel
theorem e135_143 {d : Nat} {l0 l1 l2 l3 l4 l5 l7 l8 : Option Value} {x : Int32} {σ : ab_St} {Q : Option Value → ab_St → Prop} : Ev d 135 143 [l0, l1, l2, l3, l4, l5, some (.int x), l7, l8] [] σ Q = Ev d 135 145 [l0, l1, l2, l3, l4, l5, some (.int x), l7, l8] [.int x] σ Q := ev_A1 d135_143 rfl
theorem d135_145 : decode (ab_C 135) 145 = .ok (.ifCond .lt 189, 3) := by decide +kernel
theorem e135_145 {d : Nat} {l0 l1 l2 l3 l4 l5 l6 l7 l8 : Option Value} {s0 : Int32} {σ : ab_St} {Q : Option Value → ab_St → Prop} : Ev d 135 145 [l0, l1, l2, l3, l4, l5, l6, l7, l8] [.int s0] σ Q = if s0 < 0 then Ev d 135 334 [l0, l1, l2, l3, l4, l5, l6, l7, l8] [] σ Q else Ev d 135 148 [l0, l1, l2, l3, l4, l5, l6, l7, l8] [] σ Q := ev_B (c := s0 < 0) d135_145 rfl rfl rfl rfl rfl
theorem d135_148 : decode (ab_C 135) 148 = .ok (.aload_n 0, 1) := by decide +kernel
theorem e135_148 {d : Nat} {l1 l2 l3 l4 l5 l6 l7 l8 : Option Value} {x : Nat} {σ : ab_St} {Q : Option Value → ab_St → Prop} : Ev d 135 148 [some (.ref x), l1, l2, l3, l4, l5, l6, l7, l8] [] σ Q = Ev d 135 149 [some (.ref x), l1, l2, l3, l4, l5, l6, l7, l8] [.ref x] σ Q := ev_A1 d135_148 rfl
theorem d135_149 : decode (ab_C 135) 149 = .ok (.iload 6, 2) := by decide +kernel
theorem e135_149 {d : Nat} {l0 l1 l2 l3 l4 l5 l7 l8 : Option Value} {x : Int32} {s0 : Nat} {σ : ab_St} {Q : Option Value → ab_St → Prop} : Ev d 135 149 [l0, l1, l2, l3, l4, l5, some (.int x), l7, l8] [.ref s0] σ Q = Ev d 135 151 [l0, l1, l2, l3, l4, l5, some (.int x), l7, l8] [.int x, .ref s0] σ Q := ev_A1 d135_149 rfl
theorem d135_151 : decode (ab_C 135) 151 = .ok (.invokevirtual 201, 3) := by decide +kernel
theorem e135_151 {d : Nat} {l0 l1 l2 l3 l4 l5 l6 l7 l8 : Option Value} {s0 : Int32} {s1 : Nat} {σ : ab_St} {Q : Option Value → ab_St → Prop} : Ev (d + 1) 135 151 [l0, l1, l2, l3, l4, l5, l6, l7, l8] [.int s0, .ref s1] σ Q = (ab_k s1 = 10 ∧ Ev d 136 0 [some (.ref s1), some (.int s0), none] [] σ (fun r σ2 => Ev (d + 1) 135 154 [l0, l1, l2, l3, l4, l5, l6, l7, l8] (r.toList ++ []) σ2 Q)) := ev_KV (b := s1) (ls := [l0, l1, l2, l3, l4, l5, l6, l7, l8]) (st := [.int s0, .ref s1]) (as := [.int s0]) (rest := []) d135_151 rfl rfl rfl (Nat.le_of_ble_eq_true rfl) (Nat.le_of_ble_eq_true rfl) (Nat.le_of_ble_eq_true rfl) rfl rfl rfl rfl rfl rfl rfl
theorem d135_154 : decode (ab_C 135) 154 = .ok (.iload 4, 2) := by decide +kernel
theorem e135_154 {d : Nat} {l0 l1 l2 l3 l5 l6 l7 l8 : Option Value} {x : Int32} {σ : ab_St} {Q : Option Value → ab_St → Prop} : Ev d 135 154 [l0, l1, l2, l3, some (.int x), l5, l6, l7, l8] [] σ Q = Ev d 135 156 [l0, l1, l2, l3, some (.int x), l5, l6, l7, l8] [.int x] σ Q := ev_A1 d135_154 rfl
theorem d135_156 : decode (ab_C 135) 156 = .ok (.aload_n 0, 1) := by decide +kernel
theorem e135_156 {d : Nat} {l1 l2 l3 l4 l5 l6 l7 l8 : Option Value} {x : Nat} {s0 : Int32} {σ : ab_St} {Q : Option Value → ab_St → Prop} : Ev d 135 156 [some (.ref x), l1, l2, l3, l4, l5, l6, l7, l8] [.int s0] σ Q = Ev d 135 157 [some (.ref x), l1, l2, l3, l4, l5, l6, l7, l8] [.ref x, .int s0] σ Q := ev_A1 d135_156 rfl
theorem d135_157 : decode (ab_C 135) 157 = .ok (.getfield 19, 3) := by decide +kernel
theorem e135_157 {d : Nat} {l0 l1 l2 l3 l4 l5 l6 l7 l8 : Option Value} {s0 : Nat} {s1 : Int32} {σ : ab_St} {Q : Option Value → ab_St → Prop} : Ev d 135 157 [l0, l1, l2, l3, l4, l5, l6, l7, l8] [.ref s0, .int s1] σ Q = (ab_k s0 = 10 ∧ Ev d 135 160 [l0, l1, l2, l3, l4, l5, l6, l7, l8] [.ref (ab_r s0 10), .int s1] σ Q) := ev_Hc (c := ab_k s0 = 10) d135_157 rfl rfl rfl rfl rfl rfl rfl rfl
theorem d135_160 : decode (ab_C 135) 160 = .ok (.aload_n 0, 1) := by decide +kernel
theorem e135_160 {d : Nat} {l1 l2 l3 l4 l5 l6 l7 l8 : Option Value} {x : Nat} {s0 : Nat} {s1 : Int32} {σ : ab_St} {Q : Option Value → ab_St → Prop} : Ev d 135 160 [some (.ref x), l1, l2, l3, l4, l5, l6, l7, l8] [.ref s0, .int s1] σ Q = Ev d 135 161 [some (.ref x), l1, l2, l3, l4, l5, l6, l7, l8] [.ref x, .ref s0, .int s1] σ Q := ev_A1 d135_160 rfl
theorem d135_161 : decode (ab_C 135) 161 = .ok (.getfield 60, 3) := by decide +kernel
theorem e135_161 {d : Nat} {l0 l1 l2 l3 l4 l5 l6 l7 l8 : Option Value} {s0 : Nat} {s1 : Nat} {s2 : Int32} {σ : ab_St} {Q : Option Value → ab_St → Prop} : Ev d 135 161 [l0, l1, l2, l3, l4, l5, l6, l7, l8] [.ref s0, .ref s1, .int s2] σ Q = (ab_k s0 = 10 ∧ Ev d 135 164 [l0, l1, l2, l3, l4, l5, l6, l7, l8] [.ref (ab_r s0 31), .ref s1, .int s2] σ Q) := ev_Hc (c := ab_k s0 = 10) d135_161 rfl rfl rfl rfl rfl rfl rfl rfl
theorem d135_164 : decode (ab_C 135) 164 = .ok (.iload 6, 2) := by decide +kernel
theorem e135_164 {d : Nat} {l0 l1 l2 l3 l4 l5 l7 l8 : Option Value} {x : Int32} {s0 : Nat} {s1 : Nat} {s2 : Int32} {σ : ab_St} {Q : Option Value → ab_St → Prop} : Ev d 135 164 [l0, l1, l2, l3, l4, l5, some (.int x), l7, l8] [.ref s0, .ref s1, .int s2] σ Q = Ev d 135 166 [l0, l1, l2, l3, l4, l5, some (.int x), l7, l8] [.int x, .ref s0, .ref s1, .int s2] σ Q := ev_A1 d135_164 rfl
theorem d135_166 : decode (ab_C 135) 166 = .ok (.iaload, 1) := by decide +kernel
theorem e135_166 {d : Nat} {l0 l1 l2 l3 l4 l5 l6 l7 l8 : Option Value} {s0 : Int32} {s1 : Nat} {s2 : Nat} {s3 : Int32} {σ : ab_St} {Q : Option Value → ab_St → Prop} : Ev d 135 166 [l0, l1, l2, l3, l4, l5, l6, l7, l8] [.int s0, .ref s1, .ref s2, .int s3] σ Q = ((ab_k s1 = 100 ∧ ab_in s0 (ab_n s1)) ∧ Ev d 135 167 [l0, l1, l2, l3, l4, l5, l6, l7, l8] [.int (σ.1 s1 s0.toNatClampNeg), .ref s2, .int s3] σ Q) := ev_Hc (c := ab_k s1 = 100 ∧ ab_in s0 (ab_n s1)) d135_166 rfl rfl rfl rfl rfl rfl rfl rfl
theorem d135_167 : decode (ab_C 135) 167 = .ok (.iaload, 1) := by decide +kernel
theorem e135_167 {d : Nat} {l0 l1 l2 l3 l4 l5 l6 l7 l8 : Option Value} {s0 : Int32} {s1 : Nat} {s2 : Int32} {σ : ab_St} {Q : Option Value → ab_St → Prop} : Ev d 135 167 [l0, l1, l2, l3, l4, l5, l6, l7, l8] [.int s0, .ref s1, .int s2] σ Q = ((ab_k s1 = 100 ∧ ab_in s0 (ab_n s1)) ∧ Ev d 135 168 [l0, l1, l2, l3, l4, l5, l6, l7, l8] [.int (σ.1 s1 s0.toNatClampNeg), .int s2] σ Q) := ev_Hc (c := ab_k s1 = 100 ∧ ab_in s0 (ab_n s1)) d135_167 rfl rfl rfl rfl rfl rfl rfl rfl
theorem d135_168 : decode (ab_C 135) 168 = .ok (.isub, 1) := by decide +kernel
theorem e135_168 {d : Nat} {l0 l1 l2 l3 l4 l5 l6 l7 l8 : Option Value} {s0 : Int32} {s1 : Int32} {σ : ab_St} {Q : Option Value → ab_St → Prop} : Ev d 135 168 [l0, l1, l2, l3, l4, l5, l6, l7, l8] [.int s0, .int s1] σ Q = Ev d 135 169 [l0, l1, l2, l3, l4, l5, l6, l7, l8] [.int (s1 - s0)] σ Q := ev_A2 d135_168 rfl rfl
theorem d135_169 : decode (ab_C 135) 169 = .ok (.istore 4, 2) := by decide +kernel
theorem e135_169 {d : Nat} {l0 l1 l2 l3 l4 l5 l6 l7 l8 : Option Value} {s0 : Int32} {σ : ab_St} {Q : Option Value → ab_St → Prop} : Ev d 135 169 [l0, l1, l2, l3, l4, l5, l6, l7, l8] [.int s0] σ Q = Ev d 135 171 [l0, l1, l2, l3, some (.int s0), l5, l6, l7, l8] [] σ Q := ev_S d135_169 rfl rfl rfl rfl
theorem d135_171 : decode (ab_C 135) 171 = .ok (.iload 5, 2) := by decide +kernel
theorem e135_171 {d : Nat} {l0 l1 l2 l3 l4 l6 l7 l8 : Option Value} {x : Int32} {σ : ab_St} {Q : Option Value → ab_St → Prop} : Ev d 135 171 [l0, l1, l2, l3, l4, some (.int x), l6, l7, l8] [] σ Q = Ev d 135 173 [l0, l1, l2, l3, l4, some (.int x), l6, l7, l8] [.int x] σ Q := ev_A1 d135_171 rfl
theorem d135_173 : decode (ab_C 135) 173 = .ok (.aload_n 0, 1) := by decide +kernel
theorem e135_173 {d : Nat} {l1 l2 l3 l4 l5 l6 l7 l8 : Option Value} {x : Nat} {s0 : Int32} {σ : ab_St} {Q : Option Value → ab_St → Prop} : Ev d 135 173 [some (.ref x), l1, l2, l3, l4, l5, l6, l7, l8] [.int s0] σ Q = Ev d 135 174 [some (.ref x), l1, l2, l3, l4, l5, l6, l7, l8] [.ref x, .int s0] σ Q := ev_A1 d135_173 rfl
theorem d135_174 : decode (ab_C 135) 174 = .ok (.getfield 22, 3) := by decide +kernel
theorem e135_174 {d : Nat} {l0 l1 l2 l3 l4 l5 l6 l7 l8 : Option Value} {s0 : Nat} {s1 : Int32} {σ : ab_St} {Q : Option Value → ab_St → Prop} : Ev d 135 174 [l0, l1, l2, l3, l4, l5, l6, l7, l8] [.ref s0, .int s1] σ Q = (ab_k s0 = 10 ∧ Ev d 135 177 [l0, l1, l2, l3, l4, l5, l6, l7, l8] [.ref (ab_r s0 11), .int s1] σ Q) := ev_Hc (c := ab_k s0 = 10) d135_174 rfl rfl rfl rfl rfl rfl rfl rfl
theorem d135_177 : decode (ab_C 135) 177 = .ok (.aload_n 0, 1) := by decide +kernel
theorem e135_177 {d : Nat} {l1 l2 l3 l4 l5 l6 l7 l8 : Option Value} {x : Nat} {s0 : Nat} {s1 : Int32} {σ : ab_St} {Q : Option Value → ab_St → Prop} : Ev d 135 177 [some (.ref x), l1, l2, l3, l4, l5, l6, l7, l8] [.ref s0, .int s1] σ Q = Ev d 135 178 [some (.ref x), l1, l2, l3, l4, l5, l6, l7, l8] [.ref x, .ref s0, .int s1] σ Q := ev_A1 d135_177 rfl
theorem d135_178 : decode (ab_C 135) 178 = .ok (.getfield 60, 3) := by decide +kernel
theorem e135_178 {d : Nat} {l0 l1 l2 l3 l4 l5 l6 l7 l8 : Option Value} {s0 : Nat} {s1 : Nat} {s2 : Int32} {σ : ab_St} {Q : Option Value → ab_St → Prop} : Ev d 135 178 [l0, l1, l2, l3, l4, l5, l6, l7, l8] [.ref s0, .ref s1, .int s2] σ Q = (ab_k s0 = 10 ∧ Ev d 135 181 [l0, l1, l2, l3, l4, l5, l6, l7, l8] [.ref (ab_r s0 31), .ref s1, .int s2] σ Q) := ev_Hc (c := ab_k s0 = 10) d135_178 rfl rfl rfl rfl rfl rfl rfl rfl
theorem d135_181 : decode (ab_C 135) 181 = .ok (.iload 6, 2) := by decide +kernel
theorem e135_181 {d : Nat} {l0 l1 l2 l3 l4 l5 l7 l8 : Option Value} {x : Int32} {s0 : Nat} {s1 : Nat} {s2 : Int32} {σ : ab_St} {Q : Option Value → ab_St → Prop} : Ev d 135 181 [l0, l1, l2, l3, l4, l5, some (.int x), l7, l8] [.ref s0, .ref s1, .int s2] σ Q = Ev d 135 183 [l0, l1, l2, l3, l4, l5, some (.int x), l7, l8] [.int x, .ref s0, .ref s1, .int s2] σ Q := ev_A1 d135_181 rfl
theorem d135_183 : decode (ab_C 135) 183 = .ok (.iaload, 1) := by decide +kernel
theorem e135_183 {d : Nat} {l0 l1 l2 l3 l4 l5 l6 l7 l8 : Option Value} {s0 : Int32} {s1 : Nat} {s2 : Nat} {s3 : Int32} {σ : ab_St} {Q : Option Value → ab_St → Prop} : Ev d 135 183 [l0, l1, l2, l3, l4, l5, l6, l7, l8] [.int s0, .ref s1, .ref s2, .int s3] σ Q = ((ab_k s1 = 100 ∧ ab_in s0 (ab_n s1)) ∧ Ev d 135 184 [l0, l1, l2, l3, l4, l5, l6, l7, l8] [.int (σ.1 s1 s0.toNatClampNeg), .ref s2, .int s3] σ Q) := ev_Hc (c := ab_k s1 = 100 ∧ ab_in s0 (ab_n s1)) d135_183 rfl rfl rfl rfl rfl rfl rfl rfl
theorem d135_184 : decode (ab_C 135) 184 = .ok (.iaload, 1) := by decide +kernel
theorem e135_184 {d : Nat} {l0 l1 l2 l3 l4 l5 l6 l7 l8 : Option Value} {s0 : Int32} {s1 : Nat} {s2 : Int32} {σ : ab_St} {Q : Option Value → ab_St → Prop} : Ev d 135 184 [l0, l1, l2, l3, l4, l5, l6, l7, l8] [.int s0, .ref s1, .int s2] σ Q = ((ab_k s1 = 100 ∧ ab_in s0 (ab_n s1)) ∧ Ev d 135 185 [l0, l1, l2, l3, l4, l5, l6, l7, l8] [.int (σ.1 s1 s0.toNatClampNeg), .int s2] σ Q) := ev_Hc (c := ab_k s1 = 100 ∧ ab_in s0 (ab_n s1)) d135_184 rfl rfl rfl rfl rfl rfl rfl rfl
theorem d135_185 : decode (ab_C 135) 185 = .ok (.isub, 1) := by decide +kernel
theorem e135_185 {d : Nat} {l0 l1 l2 l3 l4 l5 l6 l7 l8 : Option Value} {s0 : Int32} {s1 : Int32} {σ : ab_St} {Q : Option Value → ab_St → Prop} : Ev d 135 185 [l0, l1, l2, l3, l4, l5, l6, l7, l8] [.int s0, .int s1] σ Q = Ev d 135 186 [l0, l1, l2, l3, l4, l5, l6, l7, l8] [.int (s1 - s0)] σ Q := ev_A2 d135_185 rfl rfl
theorem d135_186 : decode (ab_C 135) 186 = .ok (.istore 5, 2) := by decide +kernel
theorem e135_186 {d : Nat} {l0 l1 l2 l3 l4 l5 l6 l7 l8 : Option Value} {s0 : Int32} {σ : ab_St} {Q : Option Value → ab_St → Prop} : Ev d 135 186 [l0, l1, l2, l3, l4, l5, l6, l7, l8] [.int s0] σ Q = Ev d 135 188 [l0, l1, l2, l3, l4, some (.int s0), l6, l7, l8] [] σ Q := ev_S d135_186 rfl rfl rfl rfl
theorem d135_188 : decode (ab_C 135) 188 = .ok (.goto 146, 3) := by decide +kernel
theorem e135_188 {d : Nat} {l0 l1 l2 l3 l4 l5 l6 l7 l8 : Option Value} {σ : ab_St} {Q : Option Value → ab_St → Prop} : Ev d 135 188 [l0, l1, l2, l3, l4, l5, l6, l7, l8] [] σ Q = Ev d 135 334 [l0, l1, l2, l3, l4, l5, l6, l7, l8] [] σ Q := ev_J d135_188 rfl rfl rfl rfl rfl
theorem d135_191 : decode (ab_C 135) 191 = .ok (.aload_n 0, 1) := by decide +kernel
theorem e135_191 {d : Nat} {l1 l2 l3 l4 l5 l6 l7 l8 : Option Value} {x : Nat} {σ : ab_St} {Q : Option Value → ab_St → Prop} : Ev d 135 191 [some (.ref x), l1, l2, l3, l4, l5, l6, l7, l8] [] σ Q = Ev d 135 192 [some (.ref x), l1, l2, l3, l4, l5, l6, l7, l8] [.ref x] σ Q := ev_A1 d135_191 rfl
theorem d135_192 : decode (ab_C 135) 192 = .ok (.getfield 60, 3) := by decide +kernel
theorem e135_192 {d : Nat} {l0 l1 l2 l3 l4 l5 l6 l7 l8 : Option Value} {s0 : Nat} {σ : ab_St} {Q : Option Value → ab_St → Prop} : Ev d 135 192 [l0, l1, l2, l3, l4, l5, l6, l7, l8] [.ref s0] σ Q = (ab_k s0 = 10 ∧ Ev d 135 195 [l0, l1, l2, l3, l4, l5, l6, l7, l8] [.ref (ab_r s0 31)] σ Q) := ev_Hc (c := ab_k s0 = 10) d135_192 rfl rfl rfl rfl rfl rfl rfl rfl
theorem d135_195 : decode (ab_C 135) 195 = .ok (.iload 6, 2) := by decide +kernel
theorem e135_195 {d : Nat} {l0 l1 l2 l3 l4 l5 l7 l8 : Option Value} {x : Int32} {s0 : Nat} {σ : ab_St} {Q : Option Value → ab_St → Prop} : Ev d 135 195 [l0, l1, l2, l3, l4, l5, some (.int x), l7, l8] [.ref s0] σ Q = Ev d 135 197 [l0, l1, l2, l3, l4, l5, some (.int x), l7, l8] [.int x, .ref s0] σ Q := ev_A1 d135_195 rfl
theorem d135_197 : decode (ab_C 135) 197 = .ok (.iload 7, 2) := by decide +kernel
theorem e135_197 {d : Nat} {l0 l1 l2 l3 l4 l5 l6 l8 : Option Value} {x : Int32} {s0 : Int32} {s1 : Nat} {σ : ab_St} {Q : Option Value → ab_St → Prop} : Ev d 135 197 [l0, l1, l2, l3, l4, l5, l6, some (.int x), l8] [.int s0, .ref s1] σ Q = Ev d 135 199 [l0, l1, l2, l3, l4, l5, l6, some (.int x), l8] [.int x, .int s0, .ref s1] σ Q := ev_A1 d135_197 rfl
theorem d135_199 : decode (ab_C 135) 199 = .ok (.iastore, 1) := by decide +kernel
theorem e135_199 {d : Nat} {l0 l1 l2 l3 l4 l5 l6 l7 l8 : Option Value} {s0 : Int32} {s1 : Int32} {s2 : Nat} {σ : ab_St} {Q : Option Value → ab_St → Prop} : Ev d 135 199 [l0, l1, l2, l3, l4, l5, l6, l7, l8] [.int s0, .int s1, .ref s2] σ Q = ((ab_k s2 = 100 ∧ ab_in s1 (ab_n s2)) ∧ Ev d 135 200 [l0, l1, l2, l3, l4, l5, l6, l7, l8] [] (ab_wI σ s2 (upd (σ.1 s2) s1.toNatClampNeg s0)) Q) := ev_Hc (c := ab_k s2 = 100 ∧ ab_in s1 (ab_n s2)) d135_199 rfl rfl rfl rfl rfl rfl rfl rfl
theorem d135_200 : decode (ab_C 135) 200 = .ok (.aload_n 0, 1) := by decide +kernel
theorem e135_200 {d : Nat} {l1 l2 l3 l4 l5 l6 l7 l8 : Option Value} {x : Nat} {σ : ab_St} {Q : Option Value → ab_St → Prop} : Ev d 135 200 [some (.ref x), l1, l2, l3, l4, l5, l6, l7, l8] [] σ Q = Ev d 135 201 [some (.ref x), l1, l2, l3, l4, l5, l6, l7, l8] [.ref x] σ Q := ev_A1 d135_200 rfl
theorem d135_201 : decode (ab_C 135) 201 = .ok (.getfield 63, 3) := by decide +kernel
theorem e135_201 {d : Nat} {l0 l1 l2 l3 l4 l5 l6 l7 l8 : Option Value} {s0 : Nat} {σ : ab_St} {Q : Option Value → ab_St → Prop} : Ev d 135 201 [l0, l1, l2, l3, l4, l5, l6, l7, l8] [.ref s0] σ Q = (ab_k s0 = 10 ∧ Ev d 135 204 [l0, l1, l2, l3, l4, l5, l6, l7, l8] [.ref (ab_r s0 32)] σ Q) := ev_Hc (c := ab_k s0 = 10) d135_201 rfl rfl rfl rfl rfl rfl rfl rfl
theorem d135_204 : decode (ab_C 135) 204 = .ok (.iload 6, 2) := by decide +kernel
theorem e135_204 {d : Nat} {l0 l1 l2 l3 l4 l5 l7 l8 : Option Value} {x : Int32} {s0 : Nat} {σ : ab_St} {Q : Option Value → ab_St → Prop} : Ev d 135 204 [l0, l1, l2, l3, l4, l5, some (.int x), l7, l8] [.ref s0] σ Q = Ev d 135 206 [l0, l1, l2, l3, l4, l5, some (.int x), l7, l8] [.int x, .ref s0] σ Q := ev_A1 d135_204 rfl
theorem d135_206 : decode (ab_C 135) 206 = .ok (.aload_n 0, 1) := by decide +kernel
theorem e135_206 {d : Nat} {l1 l2 l3 l4 l5 l6 l7 l8 : Option Value} {x : Nat} {s0 : Int32} {s1 : Nat} {σ : ab_St} {Q : Option Value → ab_St → Prop} : Ev d 135 206 [some (.ref x), l1, l2, l3, l4, l5, l6, l7, l8] [.int s0, .ref s1] σ Q = Ev d 135 207 [some (.ref x), l1, l2, l3, l4, l5, l6, l7, l8] [.ref x, .int s0, .ref s1] σ Q := ev_A1 d135_206 rfl
theorem d135_207 : decode (ab_C 135) 207 = .ok (.getfield 150, 3) := by decide +kernel
theorem e135_207 {d : Nat} {l0 l1 l2 l3 l4 l5 l6 l7 l8 : Option Value} {s0 : Nat} {s1 : Int32} {s2 : Nat} {σ : ab_St} {Q : Option Value → ab_St → Prop} : Ev d 135 207 [l0, l1, l2, l3, l4, l5, l6, l7, l8] [.ref s0, .int s1, .ref s2] σ Q = (ab_k s0 = 10 ∧ Ev d 135 210 [l0, l1, l2, l3, l4, l5, l6, l7, l8] [.int (σ.1 s0 30), .int s1, .ref s2] σ Q) := ev_Hc (c := ab_k s0 = 10) d135_207 rfl rfl rfl rfl rfl rfl rfl rfl
theorem d135_210 : decode (ab_C 135) 210 = .ok (.iastore, 1) := by decide +kernel
theorem e135_210 {d : Nat} {l0 l1 l2 l3 l4 l5 l6 l7 l8 : Option Value} {s0 : Int32} {s1 : Int32} {s2 : Nat} {σ : ab_St} {Q : Option Value → ab_St → Prop} : Ev d 135 210 [l0, l1, l2, l3, l4, l5, l6, l7, l8] [.int s0, .int s1, .ref s2] σ Q = ((ab_k s2 = 100 ∧ ab_in s1 (ab_n s2)) ∧ Ev d 135 211 [l0, l1, l2, l3, l4, l5, l6, l7, l8] [] (ab_wI σ s2 (upd (σ.1 s2) s1.toNatClampNeg s0)) Q) := ev_Hc (c := ab_k s2 = 100 ∧ ab_in s1 (ab_n s2)) d135_210 rfl rfl rfl rfl rfl rfl rfl rfl
theorem d135_211 : decode (ab_C 135) 211 = .ok (.aload_n 0, 1) := by decide +kernel
theorem e135_211 {d : Nat} {l1 l2 l3 l4 l5 l6 l7 l8 : Option Value} {x : Nat} {σ : ab_St} {Q : Option Value → ab_St → Prop} : Ev d 135 211 [some (.ref x), l1, l2, l3, l4, l5, l6, l7, l8] [] σ Q = Ev d 135 212 [some (.ref x), l1, l2, l3, l4, l5, l6, l7, l8] [.ref x] σ Q := ev_A1 d135_211 rfl
theorem d135_212 : decode (ab_C 135) 212 = .ok (.iload 7, 2) := by decide +kernel
theorem e135_212 {d : Nat} {l0 l1 l2 l3 l4 l5 l6 l8 : Option Value} {x : Int32} {s0 : Nat} {σ : ab_St} {Q : Option Value → ab_St → Prop} : Ev d 135 212 [l0, l1, l2, l3, l4, l5, l6, some (.int x), l8] [.ref s0] σ Q = Ev d 135 214 [l0, l1, l2, l3, l4, l5, l6, some (.int x), l8] [.int x, .ref s0] σ Q := ev_A1 d135_212 rfl
theorem d135_214 : decode (ab_C 135) 214 = .ok (.invokevirtual 194, 3) := by decide +kernel
theorem e135_214 {d : Nat} {l0 l1 l2 l3 l4 l5 l6 l7 l8 : Option Value} {s0 : Int32} {s1 : Nat} {σ : ab_St} {Q : Option Value → ab_St → Prop} : Ev (d + 1) 135 214 [l0, l1, l2, l3, l4, l5, l6, l7, l8] [.int s0, .ref s1] σ Q = (ab_k s1 = 10 ∧ Ev d 133 0 [some (.ref s1), some (.int s0)] [] σ (fun r σ2 => Ev (d + 1) 135 217 [l0, l1, l2, l3, l4, l5, l6, l7, l8] (r.toList ++ []) σ2 Q)) := ev_KV (b := s1) (ls := [l0, l1, l2, l3, l4, l5, l6, l7, l8]) (st := [.int s0, .ref s1]) (as := [.int s0]) (rest := []) d135_214 rfl rfl rfl (Nat.le_of_ble_eq_true rfl) (Nat.le_of_ble_eq_true rfl) (Nat.le_of_ble_eq_true rfl) rfl rfl rfl rfl rfl rfl rfl
theorem d135_217 : decode (ab_C 135) 217 = .ok (.iload 4, 2) := by decide +kernel
theorem e135_217 {d : Nat} {l0 l1 l2 l3 l5 l6 l7 l8 : Option Value} {x : Int32} {σ : ab_St} {Q : Option Value → ab_St → Prop} : Ev d 135 217 [l0, l1, l2, l3, some (.int x), l5, l6, l7, l8] [] σ Q = Ev d 135 219 [l0, l1, l2, l3, some (.int x), l5, l6, l7, l8] [.int x] σ Q := ev_A1 d135_217 rfl
theorem d135_219 : decode (ab_C 135) 219 = .ok (.aload_n 0, 1) := by decide +kernel
theorem e135_219 {d : Nat} {l1 l2 l3 l4 l5 l6 l7 l8 : Option Value} {x : Nat} {s0 : Int32} {σ : ab_St} {Q : Option Value → ab_St → Prop} : Ev d 135 219 [some (.ref x), l1, l2, l3, l4, l5, l6, l7, l8] [.int s0] σ Q = Ev d 135 220 [some (.ref x), l1, l2, l3, l4, l5, l6, l7, l8] [.ref x, .int s0] σ Q := ev_A1 d135_219 rfl
theorem d135_220 : decode (ab_C 135) 220 = .ok (.getfield 19, 3) := by decide +kernel
theorem e135_220 {d : Nat} {l0 l1 l2 l3 l4 l5 l6 l7 l8 : Option Value} {s0 : Nat} {s1 : Int32} {σ : ab_St} {Q : Option Value → ab_St → Prop} : Ev d 135 220 [l0, l1, l2, l3, l4, l5, l6, l7, l8] [.ref s0, .int s1] σ Q = (ab_k s0 = 10 ∧ Ev d 135 223 [l0, l1, l2, l3, l4, l5, l6, l7, l8] [.ref (ab_r s0 10), .int s1] σ Q) := ev_Hc (c := ab_k s0 = 10) d135_220 rfl rfl rfl rfl rfl rfl rfl rfl
theorem d135_223 : decode (ab_C 135) 223 = .ok (.iload 7, 2) := by decide +kernel
theorem e135_223 {d : Nat} {l0 l1 l2 l3 l4 l5 l6 l8 : Option Value} {x : Int32} {s0 : Nat} {s1 : Int32} {σ : ab_St} {Q : Option Value → ab_St → Prop} : Ev d 135 223 [l0, l1, l2, l3, l4, l5, l6, some (.int x), l8] [.ref s0, .int s1] σ Q = Ev d 135 225 [l0, l1, l2, l3, l4, l5, l6, some (.int x), l8] [.int x, .ref s0, .int s1] σ Q := ev_A1 d135_223 rfl
theorem d135_225 : decode (ab_C 135) 225 = .ok (.iaload, 1) := by decide +kernel
theorem e135_225 {d : Nat} {l0 l1 l2 l3 l4 l5 l6 l7 l8 : Option Value} {s0 : Int32} {s1 : Nat} {s2 : Int32} {σ : ab_St} {Q : Option Value → ab_St → Prop} : Ev d 135 225 [l0, l1, l2, l3, l4, l5, l6, l7, l8] [.int s0, .ref s1, .int s2] σ Q = ((ab_k s1 = 100 ∧ ab_in s0 (ab_n s1)) ∧ Ev d 135 226 [l0, l1, l2, l3, l4, l5, l6, l7, l8] [.int (σ.1 s1 s0.toNatClampNeg), .int s2] σ Q) := ev_Hc (c := ab_k s1 = 100 ∧ ab_in s0 (ab_n s1)) d135_225 rfl rfl rfl rfl rfl rfl rfl rfl
theorem d135_226 : decode (ab_C 135) 226 = .ok (.iadd, 1) := by decide +kernel
theorem e135_226 {d : Nat} {l0 l1 l2 l3 l4 l5 l6 l7 l8 : Option Value} {s0 : Int32} {s1 : Int32} {σ : ab_St} {Q : Option Value → ab_St → Prop} : Ev d 135 226 [l0, l1, l2, l3, l4, l5, l6, l7, l8] [.int s0, .int s1] σ Q = Ev d 135 227 [l0, l1, l2, l3, l4, l5, l6, l7, l8] [.int (s1 + s0)] σ Q := ev_A2 d135_226 rfl rfl
theorem d135_227 : decode (ab_C 135) 227 = .ok (.istore 4, 2) := by decide +kernel
theorem e135_227 {d : Nat} {l0 l1 l2 l3 l4 l5 l6 l7 l8 : Option Value} {s0 : Int32} {σ : ab_St} {Q : Option Value → ab_St → Prop} : Ev d 135 227 [l0, l1, l2, l3, l4, l5, l6, l7, l8] [.int s0] σ Q = Ev d 135 229 [l0, l1, l2, l3, some (.int s0), l5, l6, l7, l8] [] σ Q := ev_S d135_227 rfl rfl rfl rfl
theorem d135_229 : decode (ab_C 135) 229 = .ok (.iload 5, 2) := by decide +kernel
theorem e135_229 {d : Nat} {l0 l1 l2 l3 l4 l6 l7 l8 : Option Value} {x : Int32} {σ : ab_St} {Q : Option Value → ab_St → Prop} : Ev d 135 229 [l0, l1, l2, l3, l4, some (.int x), l6, l7, l8] [] σ Q = Ev d 135 231 [l0, l1, l2, l3, l4, some (.int x), l6, l7, l8] [.int x] σ Q := ev_A1 d135_229 rfl
theorem d135_231 : decode (ab_C 135) 231 = .ok (.aload_n 0, 1) := by decide +kernel
theorem e135_231 {d : Nat} {l1 l2 l3 l4 l5 l6 l7 l8 : Option Value} {x : Nat} {s0 : Int32} {σ : ab_St} {Q : Option Value → ab_St → Prop} : Ev d 135 231 [some (.ref x), l1, l2, l3, l4, l5, l6, l7, l8] [.int s0] σ Q = Ev d 135 232 [some (.ref x), l1, l2, l3, l4, l5, l6, l7, l8] [.ref x, .int s0] σ Q := ev_A1 d135_231 rfl
theorem d135_232 : decode (ab_C 135) 232 = .ok (.getfield 22, 3) := by decide +kernel
theorem e135_232 {d : Nat} {l0 l1 l2 l3 l4 l5 l6 l7 l8 : Option Value} {s0 : Nat} {s1 : Int32} {σ : ab_St} {Q : Option Value → ab_St → Prop} : Ev d 135 232 [l0, l1, l2, l3, l4, l5, l6, l7, l8] [.ref s0, .int s1] σ Q = (ab_k s0 = 10 ∧ Ev d 135 235 [l0, l1, l2, l3, l4, l5, l6, l7, l8] [.ref (ab_r s0 11), .int s1] σ Q) := ev_Hc (c := ab_k s0 = 10) d135_232 rfl rfl rfl rfl rfl rfl rfl rfl
theorem d135_235 : decode (ab_C 135) 235 = .ok (.iload 7, 2) := by decide +kernel
theorem e135_235 {d : Nat} {l0 l1 l2 l3 l4 l5 l6 l8 : Option Value} {x : Int32} {s0 : Nat} {s1 : Int32} {σ : ab_St} {Q : Option Value → ab_St → Prop} : Ev d 135 235 [l0, l1, l2, l3, l4, l5, l6, some (.int x), l8] [.ref s0, .int s1] σ Q = Ev d 135 237 [l0, l1, l2, l3, l4, l5, l6, some (.int x), l8] [.int x, .ref s0, .int s1] σ Q := ev_A1 d135_235 rfl
theorem d135_237 : decode (ab_C 135) 237 = .ok (.iaload, 1) := by decide +kernel
theorem e135_237 {d : Nat} {l0 l1 l2 l3 l4 l5 l6 l7 l8 : Option Value} {s0 : Int32} {s1 : Nat} {s2 : Int32} {σ : ab_St} {Q : Option Value → ab_St → Prop} : Ev d 135 237 [l0, l1, l2, l3, l4, l5, l6, l7, l8] [.int s0, .ref s1, .int s2] σ Q = ((ab_k s1 = 100 ∧ ab_in s0 (ab_n s1)) ∧ Ev d 135 238 [l0, l1, l2, l3, l4, l5, l6, l7, l8] [.int (σ.1 s1 s0.toNatClampNeg), .int s2] σ Q) := ev_Hc (c := ab_k s1 = 100 ∧ ab_in s0 (ab_n s1)) d135_237 rfl rfl rfl rfl rfl rfl rfl rfl
theorem d135_238 : decode (ab_C 135) 238 = .ok (.iadd, 1) := by decide +kernel
theorem e135_238 {d : Nat} {l0 l1 l2 l3 l4 l5 l6 l7 l8 : Option Value} {s0 : Int32} {s1 : Int32} {σ : ab_St} {Q : Option Value → ab_St → Prop} : Ev d 135 238 [l0, l1, l2, l3, l4, l5, l6, l7, l8] [.int s0, .int s1] σ Q = Ev d 135 239 [l0, l1, l2, l3, l4, l5, l6, l7, l8] [.int (s1 + s0)] σ Q := ev_A2 d135_238 rfl rfl
theorem d135_239 : decode (ab_C 135) 239 = .ok (.istore 5, 2) := by decide +kernel
theorem e135_239 {d : Nat} {l0 l1 l2 l3 l4 l5 l6 l7 l8 : Option Value} {s0 : Int32} {σ : ab_St} {Q : Option Value → ab_St → Prop} : Ev d 135 239 [l0, l1, l2, l3, l4, l5, l6, l7, l8] [.int s0] σ Q = Ev d 135 241 [l0, l1, l2, l3, l4, some (.int s0), l6, l7, l8] [] σ Q := ev_S d135_239 rfl rfl rfl rfl
theorem d135_241 : decode (ab_C 135) 241 = .ok (.iinc 6 1, 3) := by decide +kernel
theorem e135_241 {d : Nat} {l0 l1 l2 l3 l4 l5 l7 l8 : Option Value} {x : Int32} {σ : ab_St} {Q : Option Value → ab_St → Prop} : Ev d 135 241 [l0, l1, l2, l3, l4, l5, some (.int x), l7, l8] [] σ Q = Ev d 135 244 [l0, l1, l2, l3, l4, l5, some (.int (x + 1)), l7, l8] [] σ Q := ev_S d135_241 rfl rfl rfl rfl
theorem d135_244 : decode (ab_C 135) 244 = .ok (.aload_n 0, 1) := by decide +kernel
theorem e135_244 {d : Nat} {l1 l2 l3 l4 l5 l6 l7 l8 : Option Value} {x : Nat} {σ : ab_St} {Q : Option Value → ab_St → Prop} : Ev d 135 244 [some (.ref x), l1, l2, l3, l4, l5, l6, l7, l8] [] σ Q = Ev d 135 245 [some (.ref x), l1, l2, l3, l4, l5, l6, l7, l8] [.ref x] σ Q := ev_A1 d135_244 rfl
theorem d135_245 : decode (ab_C 135) 245 = .ok (.getfield 60, 3) := by decide +kernel
theorem e135_245 {d : Nat} {l0 l1 l2 l3 l4 l5 l6 l7 l8 : Option Value} {s0 : Nat} {σ : ab_St} {Q : Option Value → ab_St → Prop} : Ev d 135 245 [l0, l1, l2, l3, l4, l5, l6, l7, l8] [.ref s0] σ Q = (ab_k s0 = 10 ∧ Ev d 135 248 [l0, l1, l2, l3, l4, l5, l6, l7, l8] [.ref (ab_r s0 31)] σ Q) := ev_Hc (c := ab_k s0 = 10) d135_245 rfl rfl rfl rfl rfl rfl rfl rfl
theorem d135_248 : decode (ab_C 135) 248 = .ok (.iload 6, 2) := by decide +kernel
theorem e135_248 {d : Nat} {l0 l1 l2 l3 l4 l5 l7 l8 : Option Value} {x : Int32} {s0 : Nat} {σ : ab_St} {Q : Option Value → ab_St → Prop} : Ev d 135 248 [l0, l1, l2, l3, l4, l5, some (.int x), l7, l8] [.ref s0] σ Q = Ev d 135 250 [l0, l1, l2, l3, l4, l5, some (.int x), l7, l8] [.int x, .ref s0] σ Q := ev_A1 d135_248 rfl
theorem d135_250 : decode (ab_C 135) 250 = .ok (.bipush (-9), 2) := by decide +kernel
theorem e135_250 {d : Nat} {l0 l1 l2 l3 l4 l5 l6 l7 l8 : Option Value} {s0 : Int32} {s1 : Nat} {σ : ab_St} {Q : Option Value → ab_St → Prop} : Ev d 135 250 [l0, l1, l2, l3, l4, l5, l6, l7, l8] [.int s0, .ref s1] σ Q = Ev d 135 252 [l0, l1, l2, l3, l4, l5, l6, l7, l8] [.int (-9), .int s0, .ref s1] σ Q := ev_A1 d135_250 rfl
theorem d135_252 : decode (ab_C 135) 252 = .ok (.iastore, 1) := by decide +kernel
theorem e135_252 {d : Nat} {l0 l1 l2 l3 l4 l5 l6 l7 l8 : Option Value} {s0 : Int32} {s1 : Int32} {s2 : Nat} {σ : ab_St} {Q : Option Value → ab_St → Prop} : Ev d 135 252 [l0, l1, l2, l3, l4, l5, l6, l7, l8] [.int s0, .int s1, .ref s2] σ Q = ((ab_k s2 = 100 ∧ ab_in s1 (ab_n s2)) ∧ Ev d 135 253 [l0, l1, l2, l3, l4, l5, l6, l7, l8] [] (ab_wI σ s2 (upd (σ.1 s2) s1.toNatClampNeg s0)) Q) := ev_Hc (c := ab_k s2 = 100 ∧ ab_in s1 (ab_n s2)) d135_252 rfl rfl rfl rfl rfl rfl rfl rfl
theorem d135_253 : decode (ab_C 135) 253 = .ok (.iload_n 2, 1) := by decide +kernel
theorem e135_253 {d : Nat} {l0 l1 l3 l4 l5 l6 l7 l8 : Option Value} {x : Int32} {σ : ab_St} {Q : Option Value → ab_St → Prop} : Ev d 135 253 [l0, l1, some (.int x), l3, l4, l5, l6, l7, l8] [] σ Q = Ev d 135 254 [l0, l1, some (.int x), l3, l4, l5, l6, l7, l8] [.int x] σ Q := ev_A1 d135_253 rfl
theorem d135_254 : decode (ab_C 135) 254 = .ok (.bipush (-9), 2) := by decide +kernel
theorem e135_254 {d : Nat} {l0 l1 l2 l3 l4 l5 l6 l7 l8 : Option Value} {s0 : Int32} {σ : ab_St} {Q : Option Value → ab_St → Prop} : Ev d 135 254 [l0, l1, l2, l3, l4, l5, l6, l7, l8] [.int s0] σ Q = Ev d 135 256 [l0, l1, l2, l3, l4, l5, l6, l7, l8] [.int (-9), .int s0] σ Q := ev_A1 d135_254 rfl
theorem d135_256 : decode (ab_C 135) 256 = .ok (.if_icmp .eq 33, 3) := by decide +kernel
theorem e135_256 {d : Nat} {l0 l1 l2 l3 l4 l5 l6 l7 l8 : Option Value} {s0 : Int32} {s1 : Int32} {σ : ab_St} {Q : Option Value → ab_St → Prop} : Ev d 135 256 [l0, l1, l2, l3, l4, l5, l6, l7, l8] [.int s0, .int s1] σ Q = if s1 = s0 then Ev d 135 289 [l0, l1, l2, l3, l4, l5, l6, l7, l8] [] σ Q else Ev d 135 259 [l0, l1, l2, l3, l4, l5, l6, l7, l8] [] σ Q := ev_B (c := s1 = s0) d135_256 rfl rfl rfl rfl rfl
theorem d135_259 : decode (ab_C 135) 259 = .ok (.aload_n 0, 1) := by decide +kernel
theorem e135_259 {d : Nat} {l1 l2 l3 l4 l5 l6 l7 l8 : Option Value} {x : Nat} {σ : ab_St} {Q : Option Value → ab_St → Prop} : Ev d 135 259 [some (.ref x), l1, l2, l3, l4, l5, l6, l7, l8] [] σ Q = Ev d 135 260 [some (.ref x), l1, l2, l3, l4, l5, l6, l7, l8] [.ref x] σ Q := ev_A1 d135_259 rfl
theorem d135_260 : decode (ab_C 135) 260 = .ok (.iload_n 2, 1) := by decide +kernel
theorem e135_260 {d : Nat} {l0 l1 l3 l4 l5 l6 l7 l8 : Option Value} {x : Int32} {s0 : Nat} {σ : ab_St} {Q : Option Value → ab_St → Prop} : Ev d 135 260 [l0, l1, some (.int x), l3, l4, l5, l6, l7, l8] [.ref s0] σ Q = Ev d 135 261 [l0, l1, some (.int x), l3, l4, l5, l6, l7, l8] [.int x, .ref s0] σ Q := ev_A1 d135_260 rfl
theorem d135_261 : decode (ab_C 135) 261 = .ok (.invokevirtual 175, 3) := by decide +kernel
theorem e135_261 {d : Nat} {l0 l1 l2 l3 l4 l5 l6 l7 l8 : Option Value} {s0 : Int32} {s1 : Nat} {σ : ab_St} {Q : Option Value → ab_St → Prop} : Ev (d + 1) 135 261 [l0, l1, l2, l3, l4, l5, l6, l7, l8] [.int s0, .ref s1] σ Q = (ab_k s1 = 10 ∧ Ev d 122 0 [some (.ref s1), some (.int s0)] [] σ (fun r σ2 => Ev (d + 1) 135 264 [l0, l1, l2, l3, l4, l5, l6, l7, l8] (r.toList ++ []) σ2 Q)) := ev_KV (b := s1) (ls := [l0, l1, l2, l3, l4, l5, l6, l7, l8]) (st := [.int s0, .ref s1]) (as := [.int s0]) (rest := []) d135_261 rfl rfl rfl (Nat.le_of_ble_eq_true rfl) (Nat.le_of_ble_eq_true rfl) (Nat.le_of_ble_eq_true rfl) rfl rfl rfl rfl rfl rfl rfl
theorem d135_264 : decode (ab_C 135) 264 = .ok (.ifCond .eq 20, 3) := by decide +kernel
theorem e135_264 {d : Nat} {l0 l1 l2 l3 l4 l5 l6 l7 l8 : Option Value} {s0 : Int32} {σ : ab_St} {Q : Option Value → ab_St → Prop} : Ev d 135 264 [l0, l1, l2, l3, l4, l5, l6, l7, l8] [.int s0] σ Q = if s0 = 0 then Ev d 135 284 [l0, l1, l2, l3, l4, l5, l6, l7, l8] [] σ Q else Ev d 135 267 [l0, l1, l2, l3, l4, l5, l6, l7, l8] [] σ Q := ev_B (c := s0 = 0) d135_264 rfl rfl rfl rfl rfl
theorem d135_267 : decode (ab_C 135) 267 = .ok (.iload_n 3, 1) := by decide +kernel
theorem e135_267 {d : Nat} {l0 l1 l2 l4 l5 l6 l7 l8 : Option Value} {x : Int32} {σ : ab_St} {Q : Option Value → ab_St → Prop} : Ev d 135 267 [l0, l1, l2, some (.int x), l4, l5, l6, l7, l8] [] σ Q = Ev d 135 268 [l0, l1, l2, some (.int x), l4, l5, l6, l7, l8] [.int x] σ Q := ev_A1 d135_267 rfl
theorem d135_268 : decode (ab_C 135) 268 = .ok (.bipush (-9), 2) := by decide +kernel
theorem e135_268 {d : Nat} {l0 l1 l2 l3 l4 l5 l6 l7 l8 : Option Value} {s0 : Int32} {σ : ab_St} {Q : Option Value → ab_St → Prop} : Ev d 135 268 [l0, l1, l2, l3, l4, l5, l6, l7, l8] [.int s0] σ Q = Ev d 135 270 [l0, l1, l2, l3, l4, l5, l6, l7, l8] [.int (-9), .int s0] σ Q := ev_A1 d135_268 rfl
theorem d135_270 : decode (ab_C 135) 270 = .ok (.if_icmp .eq 9, 3) := by decide +kernel
theorem e135_270 {d : Nat} {l0 l1 l2 l3 l4 l5 l6 l7 l8 : Option Value} {s0 : Int32} {s1 : Int32} {σ : ab_St} {Q : Option Value → ab_St → Prop} : Ev d 135 270 [l0, l1, l2, l3, l4, l5, l6, l7, l8] [.int s0, .int s1] σ Q = if s1 = s0 then Ev d 135 279 [l0, l1, l2, l3, l4, l5, l6, l7, l8] [] σ Q else Ev d 135 273 [l0, l1, l2, l3, l4, l5, l6, l7, l8] [] σ Q := ev_B (c := s1 = s0) d135_270 rfl rfl rfl rfl rfl
theorem d135_273 : decode (ab_C 135) 273 = .ok (.iload 4, 2) := by decide +kernel
theorem e135_273 {d : Nat} {l0 l1 l2 l3 l5 l6 l7 l8 : Option Value} {x : Int32} {σ : ab_St} {Q : Option Value → ab_St → Prop} : Ev d 135 273 [l0, l1, l2, l3, some (.int x), l5, l6, l7, l8] [] σ Q = Ev d 135 275 [l0, l1, l2, l3, some (.int x), l5, l6, l7, l8] [.int x] σ Q := ev_A1 d135_273 rfl
theorem d135_275 : decode (ab_C 135) 275 = .ok (.iload_n 3, 1) := by decide +kernel
theorem e135_275 {d : Nat} {l0 l1 l2 l4 l5 l6 l7 l8 : Option Value} {x : Int32} {s0 : Int32} {σ : ab_St} {Q : Option Value → ab_St → Prop} : Ev d 135 275 [l0, l1, l2, some (.int x), l4, l5, l6, l7, l8] [.int s0] σ Q = Ev d 135 276 [l0, l1, l2, some (.int x), l4, l5, l6, l7, l8] [.int x, .int s0] σ Q := ev_A1 d135_275 rfl
theorem d135_276 : decode (ab_C 135) 276 = .ok (.if_icmp .ge 8, 3) := by decide +kernel
theorem e135_276 {d : Nat} {l0 l1 l2 l3 l4 l5 l6 l7 l8 : Option Value} {s0 : Int32} {s1 : Int32} {σ : ab_St} {Q : Option Value → ab_St → Prop} : Ev d 135 276 [l0, l1, l2, l3, l4, l5, l6, l7, l8] [.int s0, .int s1] σ Q = if s0 ≤ s1 then Ev d 135 284 [l0, l1, l2, l3, l4, l5, l6, l7, l8] [] σ Q else Ev d 135 279 [l0, l1, l2, l3, l4, l5, l6, l7, l8] [] σ Q := ev_B (c := s0 ≤ s1) d135_276 rfl rfl rfl rfl rfl
theorem d135_279 : decode (ab_C 135) 279 = .ok (.iload 4, 2) := by decide +kernel
theorem e135_279 {d : Nat} {l0 l1 l2 l3 l5 l6 l7 l8 : Option Value} {x : Int32} {σ : ab_St} {Q : Option Value → ab_St → Prop} : Ev d 135 279 [l0, l1, l2, l3, some (.int x), l5, l6, l7, l8] [] σ Q = Ev d 135 281 [l0, l1, l2, l3, some (.int x), l5, l6, l7, l8] [.int x] σ Q := ev_A1 d135_279 rfl
theorem d135_281 : decode (ab_C 135) 281 = .ok (.goto 4, 3) := by decide +kernel
theorem e135_281 {d : Nat} {l0 l1 l2 l3 l4 l5 l6 l7 l8 : Option Value} {s0 : Int32} {σ : ab_St} {Q : Option Value → ab_St → Prop} : Ev d 135 281 [l0, l1, l2, l3, l4, l5, l6, l7, l8] [.int s0] σ Q = Ev d 135 285 [l0, l1, l2, l3, l4, l5, l6, l7, l8] [.int s0] σ Q := ev_J d135_281 rfl rfl rfl rfl rfl
theorem d135_284 : decode (ab_C 135) 284 = .ok (.iload_n 3, 1) := by decide +kernel
theorem e135_284 {d : Nat} {l0 l1 l2 l4 l5 l6 l7 l8 : Option Value} {x : Int32} {σ : ab_St} {Q : Option Value → ab_St → Prop} : Ev d 135 284 [l0, l1, l2, some (.int x), l4, l5, l6, l7, l8] [] σ Q = Ev d 135 285 [l0, l1, l2, some (.int x), l4, l5, l6, l7, l8] [.int x] σ Q := ev_A1 d135_284 rfl
theorem d135_285 : decode (ab_C 135) 285 = .ok (.istore_n 3, 1) := by decide +kernel
theorem e135_285 {d : Nat} {l0 l1 l2 l3 l4 l5 l6 l7 l8 : Option Value} {s0 : Int32} {σ : ab_St} {Q : Option Value → ab_St → Prop} : Ev d 135 285 [l0, l1, l2, l3, l4, l5, l6, l7, l8] [.int s0] σ Q = Ev d 135 286 [l0, l1, l2, some (.int s0), l4, l5, l6, l7, l8] [] σ Q := ev_S d135_285 rfl rfl rfl rfl
theorem d135_286 : decode (ab_C 135) 286 = .ok (.goto 48, 3) := by decide +kernel
theorem e135_286 {d : Nat} {l0 l1 l2 l3 l4 l5 l6 l7 l8 : Option Value} {σ : ab_St} {Q : Option Value → ab_St → Prop} : Ev d 135 286 [l0, l1, l2, l3, l4, l5, l6, l7, l8] [] σ Q = Ev d 135 334 [l0, l1, l2, l3, l4, l5, l6, l7, l8] [] σ Q := ev_J d135_286 rfl rfl rfl rfl rfl
theorem d135_289 : decode (ab_C 135) 289 = .ok (.iload 5, 2) := by decide +kernel
theorem e135_289 {d : Nat} {l0 l1 l2 l3 l4 l6 l7 l8 : Option Value} {x : Int32} {σ : ab_St} {Q : Option Value → ab_St → Prop} : Ev d 135 289 [l0, l1, l2, l3, l4, some (.int x), l6, l7, l8] [] σ Q = Ev d 135 291 [l0, l1, l2, l3, l4, some (.int x), l6, l7, l8] [.int x] σ Q := ev_A1 d135_289 rfl
theorem d135_291 : decode (ab_C 135) 291 = .ok (.iload_n 3, 1) := by decide +kernel
theorem e135_291 {d : Nat} {l0 l1 l2 l4 l5 l6 l7 l8 : Option Value} {x : Int32} {s0 : Int32} {σ : ab_St} {Q : Option Value → ab_St → Prop} : Ev d 135 291 [l0, l1, l2, some (.int x), l4, l5, l6, l7, l8] [.int s0] σ Q = Ev d 135 292 [l0, l1, l2, some (.int x), l4, l5, l6, l7, l8] [.int x, .int s0] σ Q := ev_A1 d135_291 rfl
theorem d135_292 : decode (ab_C 135) 292 = .ok (.if_icmp .le 42, 3) := by decide +kernel
theorem e135_292 {d : Nat} {l0 l1 l2 l3 l4 l5 l6 l7 l8 : Option Value} {s0 : Int32} {s1 : Int32} {σ : ab_St} {Q : Option Value → ab_St → Prop} : Ev d 135 292 [l0, l1, l2, l3, l4, l5, l6, l7, l8] [.int s0, .int s1] σ Q = if s1 ≤ s0 then Ev d 135 334 [l0, l1, l2, l3, l4, l5, l6, l7, l8] [] σ Q else Ev d 135 295 [l0, l1, l2, l3, l4, l5, l6, l7, l8] [] σ Q := ev_B (c := s1 ≤ s0) d135_292 rfl rfl rfl rfl rfl
theorem d135_295 : decode (ab_C 135) 295 = .ok (.iload 5, 2) := by decide +kernel
theorem e135_295 {d : Nat} {l0 l1 l2 l3 l4 l6 l7 l8 : Option Value} {x : Int32} {σ : ab_St} {Q : Option Value → ab_St → Prop} : Ev d 135 295 [l0, l1, l2, l3, l4, some (.int x), l6, l7, l8] [] σ Q = Ev d 135 297 [l0, l1, l2, l3, l4, some (.int x), l6, l7, l8] [.int x] σ Q := ev_A1 d135_295 rfl
theorem d135_297 : decode (ab_C 135) 297 = .ok (.istore_n 3, 1) := by decide +kernel
theorem e135_297 {d : Nat} {l0 l1 l2 l3 l4 l5 l6 l7 l8 : Option Value} {s0 : Int32} {σ : ab_St} {Q : Option Value → ab_St → Prop} : Ev d 135 297 [l0, l1, l2, l3, l4, l5, l6, l7, l8] [.int s0] σ Q = Ev d 135 298 [l0, l1, l2, some (.int s0), l4, l5, l6, l7, l8] [] σ Q := ev_S d135_297 rfl rfl rfl rfl
theorem d135_298 : decode (ab_C 135) 298 = .ok (.aload_n 0, 1) := by decide +kernel
theorem e135_298 {d : Nat} {l1 l2 l3 l4 l5 l6 l7 l8 : Option Value} {x : Nat} {σ : ab_St} {Q : Option Value → ab_St → Prop} : Ev d 135 298 [some (.ref x), l1, l2, l3, l4, l5, l6, l7, l8] [] σ Q = Ev d 135 299 [some (.ref x), l1, l2, l3, l4, l5, l6, l7, l8] [.ref x] σ Q := ev_A1 d135_298 rfl
theorem d135_299 : decode (ab_C 135) 299 = .ok (.iload 6, 2) := by decide +kernel
theorem e135_299 {d : Nat} {l0 l1 l2 l3 l4 l5 l7 l8 : Option Value} {x : Int32} {s0 : Nat} {σ : ab_St} {Q : Option Value → ab_St → Prop} : Ev d 135 299 [l0, l1, l2, l3, l4, l5, some (.int x), l7, l8] [.ref s0] σ Q = Ev d 135 301 [l0, l1, l2, l3, l4, l5, some (.int x), l7, l8] [.int x, .ref s0] σ Q := ev_A1 d135_299 rfl
theorem d135_301 : decode (ab_C 135) 301 = .ok (.putfield 198, 3) := by decide +kernel
theorem e135_301 {d : Nat} {l0 l1 l2 l3 l4 l5 l6 l7 l8 : Option Value} {s0 : Int32} {s1 : Nat} {σ : ab_St} {Q : Option Value → ab_St → Prop} : Ev d 135 301 [l0, l1, l2, l3, l4, l5, l6, l7, l8] [.int s0, .ref s1] σ Q = (ab_k s1 = 10 ∧ Ev d 135 304 [l0, l1, l2, l3, l4, l5, l6, l7, l8] [] (ab_wI σ s1 (upd (σ.1 s1) 34 s0)) Q) := ev_Hc (c := ab_k s1 = 10) d135_301 rfl rfl rfl rfl rfl rfl rfl rfl
theorem d135_304 : decode (ab_C 135) 304 = .ok (.iconst 0, 1) := by decide +kernel
theorem e135_304 {d : Nat} {l0 l1 l2 l3 l4 l5 l6 l7 l8 : Option Value} {σ : ab_St} {Q : Option Value → ab_St → Prop} : Ev d 135 304 [l0, l1, l2, l3, l4, l5, l6, l7, l8] [] σ Q = Ev d 135 305 [l0, l1, l2, l3, l4, l5, l6, l7, l8] [.int 0] σ Q := ev_A1 d135_304 rfl
theorem d135_305 : decode (ab_C 135) 305 = .ok (.istore 8, 2) := by decide +kernel
theorem e135_305 {d : Nat} {l0 l1 l2 l3 l4 l5 l6 l7 l8 : Option Value} {s0 : Int32} {σ : ab_St} {Q : Option Value → ab_St → Prop} : Ev d 135 305 [l0, l1, l2, l3, l4, l5, l6, l7, l8] [.int s0] σ Q = Ev d 135 307 [l0, l1, l2, l3, l4, l5, l6, l7, some (.int s0)] [] σ Q := ev_S d135_305 rfl rfl rfl rfl
theorem d135_307 : decode (ab_C 135) 307 = .ok (.iload 8, 2) := by decide +kernel
theorem e135_307 {d : Nat} {l0 l1 l2 l3 l4 l5 l6 l7 : Option Value} {x : Int32} {σ : ab_St} {Q : Option Value → ab_St → Prop} : Ev d 135 307 [l0, l1, l2, l3, l4, l5, l6, l7, some (.int x)] [] σ Q = Ev d 135 309 [l0, l1, l2, l3, l4, l5, l6, l7, some (.int x)] [.int x] σ Q := ev_A1 d135_307 rfl
theorem d135_309 : decode (ab_C 135) 309 = .ok (.iload 6, 2) := by decide +kernel
theorem e135_309 {d : Nat} {l0 l1 l2 l3 l4 l5 l7 l8 : Option Value} {x : Int32} {s0 : Int32} {σ : ab_St} {Q : Option Value → ab_St → Prop} : Ev d 135 309 [l0, l1, l2, l3, l4, l5, some (.int x), l7, l8] [.int s0] σ Q = Ev d 135 311 [l0, l1, l2, l3, l4, l5, some (.int x), l7, l8] [.int x, .int s0] σ Q := ev_A1 d135_309 rfl
theorem d135_311 : decode (ab_C 135) 311 = .ok (.if_icmp .ge 23, 3) := by decide +kernel
theorem e135_311 {d : Nat} {l0 l1 l2 l3 l4 l5 l6 l7 l8 : Option Value} {s0 : Int32} {s1 : Int32} {σ : ab_St} {Q : Option Value → ab_St → Prop} : Ev d 135 311 [l0, l1, l2, l3, l4, l5, l6, l7, l8] [.int s0, .int s1] σ Q = if s0 ≤ s1 then Ev d 135 334 [l0, l1, l2, l3, l4, l5, l6, l7, l8] [] σ Q else Ev d 135 314 [l0, l1, l2, l3, l4, l5, l6, l7, l8] [] σ Q := ev_B (c := s0 ≤ s1) d135_311 rfl rfl rfl rfl rfl
theorem d135_314 : decode (ab_C 135) 314 = .ok (.aload_n 0, 1) := by decide +kernel
theorem e135_314 {d : Nat} {l1 l2 l3 l4 l5 l6 l7 l8 : Option Value} {x : Nat} {σ : ab_St} {Q : Option Value → ab_St → Prop} : Ev d 135 314 [some (.ref x), l1, l2, l3, l4, l5, l6, l7, l8] [] σ Q = Ev d 135 315 [some (.ref x), l1, l2, l3, l4, l5, l6, l7, l8] [.ref x] σ Q := ev_A1 d135_314 rfl
theorem d135_315 : decode (ab_C 135) 315 = .ok (.getfield 66, 3) := by decide +kernel
theorem e135_315 {d : Nat} {l0 l1 l2 l3 l4 l5 l6 l7 l8 : Option Value} {s0 : Nat} {σ : ab_St} {Q : Option Value → ab_St → Prop} : Ev d 135 315 [l0, l1, l2, l3, l4, l5, l6, l7, l8] [.ref s0] σ Q = (ab_k s0 = 10 ∧ Ev d 135 318 [l0, l1, l2, l3, l4, l5, l6, l7, l8] [.ref (ab_r s0 33)] σ Q) := ev_Hc (c := ab_k s0 = 10) d135_315 rfl rfl rfl rfl rfl rfl rfl rfl
theorem d135_318 : decode (ab_C 135) 318 = .ok (.iload 8, 2) := by decide +kernel
theorem e135_318 {d : Nat} {l0 l1 l2 l3 l4 l5 l6 l7 : Option Value} {x : Int32} {s0 : Nat} {σ : ab_St} {Q : Option Value → ab_St → Prop} : Ev d 135 318 [l0, l1, l2, l3, l4, l5, l6, l7, some (.int x)] [.ref s0] σ Q = Ev d 135 320 [l0, l1, l2, l3, l4, l5, l6, l7, some (.int x)] [.int x, .ref s0] σ Q := ev_A1 d135_318 rfl
theorem d135_320 : decode (ab_C 135) 320 = .ok (.aload_n 0, 1) := by decide +kernel
theorem e135_320 {d : Nat} {l1 l2 l3 l4 l5 l6 l7 l8 : Option Value} {x : Nat} {s0 : Int32} {s1 : Nat} {σ : ab_St} {Q : Option Value → ab_St → Prop} : Ev d 135 320 [some (.ref x), l1, l2, l3, l4, l5, l6, l7, l8] [.int s0, .ref s1] σ Q = Ev d 135 321 [some (.ref x), l1, l2, l3, l4, l5, l6, l7, l8] [.ref x, .int s0, .ref s1] σ Q := ev_A1 d135_320 rfl
theorem d135_321 : decode (ab_C 135) 321 = .ok (.getfield 60, 3) := by decide +kernel
theorem e135_321 {d : Nat} {l0 l1 l2 l3 l4 l5 l6 l7 l8 : Option Value} {s0 : Nat} {s1 : Int32} {s2 : Nat} {σ : ab_St} {Q : Option Value → ab_St → Prop} : Ev d 135 321 [l0, l1, l2, l3, l4, l5, l6, l7, l8] [.ref s0, .int s1, .ref s2] σ Q = (ab_k s0 = 10 ∧ Ev d 135 324 [l0, l1, l2, l3, l4, l5, l6, l7, l8] [.ref (ab_r s0 31), .int s1, .ref s2] σ Q) := ev_Hc (c := ab_k s0 = 10) d135_321 rfl rfl rfl rfl rfl rfl rfl rfl
theorem d135_324 : decode (ab_C 135) 324 = .ok (.iload 8, 2) := by decide +kernel
theorem e135_324 {d : Nat} {l0 l1 l2 l3 l4 l5 l6 l7 : Option Value} {x : Int32} {s0 : Nat} {s1 : Int32} {s2 : Nat} {σ : ab_St} {Q : Option Value → ab_St → Prop} : Ev d 135 324 [l0, l1, l2, l3, l4, l5, l6, l7, some (.int x)] [.ref s0, .int s1, .ref s2] σ Q = Ev d 135 326 [l0, l1, l2, l3, l4, l5, l6, l7, some (.int x)] [.int x, .ref s0, .int s1, .ref s2] σ Q := ev_A1 d135_324 rfl
theorem d135_326 : decode (ab_C 135) 326 = .ok (.iaload, 1) := by decide +kernel
theorem e135_326 {d : Nat} {l0 l1 l2 l3 l4 l5 l6 l7 l8 : Option Value} {s0 : Int32} {s1 : Nat} {s2 : Int32} {s3 : Nat} {σ : ab_St} {Q : Option Value → ab_St → Prop} : Ev d 135 326 [l0, l1, l2, l3, l4, l5, l6, l7, l8] [.int s0, .ref s1, .int s2, .ref s3] σ Q = ((ab_k s1 = 100 ∧ ab_in s0 (ab_n s1)) ∧ Ev d 135 327 [l0, l1, l2, l3, l4, l5, l6, l7, l8] [.int (σ.1 s1 s0.toNatClampNeg), .int s2, .ref s3] σ Q) := ev_Hc (c := ab_k s1 = 100 ∧ ab_in s0 (ab_n s1)) d135_326 rfl rfl rfl rfl rfl rfl rfl rfl
theorem d135_327 : decode (ab_C 135) 327 = .ok (.iastore, 1) := by decide +kernel
theorem e135_327 {d : Nat} {l0 l1 l2 l3 l4 l5 l6 l7 l8 : Option Value} {s0 : Int32} {s1 : Int32} {s2 : Nat} {σ : ab_St} {Q : Option Value → ab_St → Prop} : Ev d 135 327 [l0, l1, l2, l3, l4, l5, l6, l7, l8] [.int s0, .int s1, .ref s2] σ Q = ((ab_k s2 = 100 ∧ ab_in s1 (ab_n s2)) ∧ Ev d 135 328 [l0, l1, l2, l3, l4, l5, l6, l7, l8] [] (ab_wI σ s2 (upd (σ.1 s2) s1.toNatClampNeg s0)) Q) := ev_Hc (c := ab_k s2 = 100 ∧ ab_in s1 (ab_n s2)) d135_327 rfl rfl rfl rfl rfl rfl rfl rfl
theorem d135_328 : decode (ab_C 135) 328 = .ok (.iinc 8 1, 3) := by decide +kernel
theorem e135_328 {d : Nat} {l0 l1 l2 l3 l4 l5 l6 l7 : Option Value} {x : Int32} {σ : ab_St} {Q : Option Value → ab_St → Prop} : Ev d 135 328 [l0, l1, l2, l3, l4, l5, l6, l7, some (.int x)] [] σ Q = Ev d 135 331 [l0, l1, l2, l3, l4, l5, l6, l7, some (.int (x + 1))] [] σ Q := ev_S d135_328 rfl rfl rfl rfl
theorem d135_331 : decode (ab_C 135) 331 = .ok (.goto (-24), 3) := by decide +kernel
theorem e135_331 {d : Nat} {l0 l1 l2 l3 l4 l5 l6 l7 l8 : Option Value} {σ : ab_St} {Q : Option Value → ab_St → Prop} : Ev d 135 331 [l0, l1, l2, l3, l4, l5, l6, l7, l8] [] σ Q = Ev d 135 307 [l0, l1, l2, l3, l4, l5, l6, l7, l8] [] σ Q := ev_J d135_331 rfl rfl rfl rfl rfl
theorem d135_334 : decode (ab_C 135) 334 = .ok (.goto (-279), 3) := by decide +kernel
theorem e135_334 {d : Nat} {l0 l1 l2 l3 l4 l5 l6 l7 l8 : Option Value} {σ : ab_St} {Q : Option Value → ab_St → Prop} : Ev d 135 334 [l0, l1, l2, l3, l4, l5, l6, l7, l8] [] σ Q = Ev d 135 55 [l0, l1, l2, l3, l4, l5, l6, l7, l8] [] σ Q := ev_J d135_334 rfl rfl rfl rfl rfl
theorem d135_337 : decode (ab_C 135) 337 = .ok (.iload_n 3, 1) := by decide +kernel
theorem e135_337 {d : Nat} {l0 l1 l2 l4 l5 l6 l7 l8 : Option Value} {x : Int32} {σ : ab_St} {Q : Option Value → ab_St → Prop} : Ev d 135 337 [l0, l1, l2, some (.int x), l4, l5, l6, l7, l8] [] σ Q = Ev d 135 338 [l0, l1, l2, some (.int x), l4, l5, l6, l7, l8] [.int x] σ Q := ev_A1 d135_337 rfl
theorem d135_338 : decode (ab_C 135) 338 = .ok (.ireturn, 1) := by decide +kernel
theorem e135_338 {d : Nat} {l0 l1 l2 l3 l4 l5 l6 l7 l8 : Option Value} {s0 : Int32} {σ : ab_St} {Q : Option Value → ab_St → Prop} : Ev d 135 338 [l0, l1, l2, l3, l4, l5, l6, l7, l8] [.int s0] σ Q = Q (some (.int s0)) σ := ev_E d135_338 rfl rfl rfl rfl rfl rfl rfl
/-! SaidLeastModel.takeBack(I)V -/
theorem d136_0 : decode (ab_C 136) 0 = .ok (.aload_n 0, 1) := by decide +kernel
theorem e136_0 {d : Nat} {l1 l2 : Option Value} {x : Nat} {σ : ab_St} {Q : Option Value → ab_St → Prop} : Ev d 136 0 [some (.ref x), l1, l2] [] σ Q = Ev d 136 1 [some (.ref x), l1, l2] [.ref x] σ Q := ev_A1 d136_0 rfl
theorem d136_1 : decode (ab_C 136) 1 = .ok (.getfield 60, 3) := by decide +kernel
theorem e136_1 {d : Nat} {l0 l1 l2 : Option Value} {s0 : Nat} {σ : ab_St} {Q : Option Value → ab_St → Prop} : Ev d 136 1 [l0, l1, l2] [.ref s0] σ Q = (ab_k s0 = 10 ∧ Ev d 136 4 [l0, l1, l2] [.ref (ab_r s0 31)] σ Q) := ev_Hc (c := ab_k s0 = 10) d136_1 rfl rfl rfl rfl rfl rfl rfl rfl
theorem d136_4 : decode (ab_C 136) 4 = .ok (.iload_n 1, 1) := by decide +kernel
theorem e136_4 {d : Nat} {l0 l2 : Option Value} {x : Int32} {s0 : Nat} {σ : ab_St} {Q : Option Value → ab_St → Prop} : Ev d 136 4 [l0, some (.int x), l2] [.ref s0] σ Q = Ev d 136 5 [l0, some (.int x), l2] [.int x, .ref s0] σ Q := ev_A1 d136_4 rfl
theorem d136_5 : decode (ab_C 136) 5 = .ok (.iaload, 1) := by decide +kernel
theorem e136_5 {d : Nat} {l0 l1 l2 : Option Value} {s0 : Int32} {s1 : Nat} {σ : ab_St} {Q : Option Value → ab_St → Prop} : Ev d 136 5 [l0, l1, l2] [.int s0, .ref s1] σ Q = ((ab_k s1 = 100 ∧ ab_in s0 (ab_n s1)) ∧ Ev d 136 6 [l0, l1, l2] [.int (σ.1 s1 s0.toNatClampNeg)] σ Q) := ev_Hc (c := ab_k s1 = 100 ∧ ab_in s0 (ab_n s1)) d136_5 rfl rfl rfl rfl rfl rfl rfl rfl
theorem d136_6 : decode (ab_C 136) 6 = .ok (.istore_n 2, 1) := by decide +kernel
theorem e136_6 {d : Nat} {l0 l1 l2 : Option Value} {s0 : Int32} {σ : ab_St} {Q : Option Value → ab_St → Prop} : Ev d 136 6 [l0, l1, l2] [.int s0] σ Q = Ev d 136 7 [l0, l1, some (.int s0)] [] σ Q := ev_S d136_6 rfl rfl rfl rfl
theorem d136_7 : decode (ab_C 136) 7 = .ok (.aload_n 0, 1) := by decide +kernel
theorem e136_7 {d : Nat} {l1 l2 : Option Value} {x : Nat} {σ : ab_St} {Q : Option Value → ab_St → Prop} : Ev d 136 7 [some (.ref x), l1, l2] [] σ Q = Ev d 136 8 [some (.ref x), l1, l2] [.ref x] σ Q := ev_A1 d136_7 rfl
theorem d136_8 : decode (ab_C 136) 8 = .ok (.dup, 1) := by decide +kernel
theorem e136_8 {d : Nat} {l0 l1 l2 : Option Value} {s0 : Nat} {σ : ab_St} {Q : Option Value → ab_St → Prop} : Ev d 136 8 [l0, l1, l2] [.ref s0] σ Q = Ev d 136 9 [l0, l1, l2] [.ref s0, .ref s0] σ Q := ev_A1 d136_8 rfl
theorem d136_9 : decode (ab_C 136) 9 = .ok (.getfield 147, 3) := by decide +kernel
theorem e136_9 {d : Nat} {l0 l1 l2 : Option Value} {s0 : Nat} {s1 : Nat} {σ : ab_St} {Q : Option Value → ab_St → Prop} : Ev d 136 9 [l0, l1, l2] [.ref s0, .ref s1] σ Q = (ab_k s0 = 10 ∧ Ev d 136 12 [l0, l1, l2] [.int (σ.1 s0 29), .ref s1] σ Q) := ev_Hc (c := ab_k s0 = 10) d136_9 rfl rfl rfl rfl rfl rfl rfl rfl
theorem d136_12 : decode (ab_C 136) 12 = .ok (.iconst 1, 1) := by decide +kernel
theorem e136_12 {d : Nat} {l0 l1 l2 : Option Value} {s0 : Int32} {s1 : Nat} {σ : ab_St} {Q : Option Value → ab_St → Prop} : Ev d 136 12 [l0, l1, l2] [.int s0, .ref s1] σ Q = Ev d 136 13 [l0, l1, l2] [.int 1, .int s0, .ref s1] σ Q := ev_A1 d136_12 rfl
theorem d136_13 : decode (ab_C 136) 13 = .ok (.iload_n 2, 1) := by decide +kernel
theorem e136_13 {d : Nat} {l0 l1 : Option Value} {x : Int32} {s0 : Int32} {s1 : Int32} {s2 : Nat} {σ : ab_St} {Q : Option Value → ab_St → Prop} : Ev d 136 13 [l0, l1, some (.int x)] [.int s0, .int s1, .ref s2] σ Q = Ev d 136 14 [l0, l1, some (.int x)] [.int x, .int s0, .int s1, .ref s2] σ Q := ev_A1 d136_13 rfl
theorem d136_14 : decode (ab_C 136) 14 = .ok (.ishl, 1) := by decide +kernel
theorem e136_14 {d : Nat} {l0 l1 l2 : Option Value} {s0 : Int32} {s1 : Int32} {s2 : Int32} {s3 : Nat} {σ : ab_St} {Q : Option Value → ab_St → Prop} : Ev d 136 14 [l0, l1, l2] [.int s0, .int s1, .int s2, .ref s3] σ Q = Ev d 136 15 [l0, l1, l2] [.int (s1 <<< (s0 &&& 31)), .int s2, .ref s3] σ Q := ev_A2 d136_14 rfl rfl
theorem d136_15 : decode (ab_C 136) 15 = .ok (.iconst (-1), 1) := by decide +kernel
theorem e136_15 {d : Nat} {l0 l1 l2 : Option Value} {s0 : Int32} {s1 : Int32} {s2 : Nat} {σ : ab_St} {Q : Option Value → ab_St → Prop} : Ev d 136 15 [l0, l1, l2] [.int s0, .int s1, .ref s2] σ Q = Ev d 136 16 [l0, l1, l2] [.int (-1), .int s0, .int s1, .ref s2] σ Q := ev_A1 d136_15 rfl
theorem d136_16 : decode (ab_C 136) 16 = .ok (.ixor, 1) := by decide +kernel
theorem e136_16 {d : Nat} {l0 l1 l2 : Option Value} {s0 : Int32} {s1 : Int32} {s2 : Int32} {s3 : Nat} {σ : ab_St} {Q : Option Value → ab_St → Prop} : Ev d 136 16 [l0, l1, l2] [.int s0, .int s1, .int s2, .ref s3] σ Q = Ev d 136 17 [l0, l1, l2] [.int (s1 ^^^ s0), .int s2, .ref s3] σ Q := ev_A2 d136_16 rfl rfl
theorem d136_17 : decode (ab_C 136) 17 = .ok (.iand, 1) := by decide +kernel
theorem e136_17 {d : Nat} {l0 l1 l2 : Option Value} {s0 : Int32} {s1 : Int32} {s2 : Nat} {σ : ab_St} {Q : Option Value → ab_St → Prop} : Ev d 136 17 [l0, l1, l2] [.int s0, .int s1, .ref s2] σ Q = Ev d 136 18 [l0, l1, l2] [.int (s1 &&& s0), .ref s2] σ Q := ev_A2 d136_17 rfl rfl
theorem d136_18 : decode (ab_C 136) 18 = .ok (.putfield 147, 3) := by decide +kernel
theorem e136_18 {d : Nat} {l0 l1 l2 : Option Value} {s0 : Int32} {s1 : Nat} {σ : ab_St} {Q : Option Value → ab_St → Prop} : Ev d 136 18 [l0, l1, l2] [.int s0, .ref s1] σ Q = (ab_k s1 = 10 ∧ Ev d 136 21 [l0, l1, l2] [] (ab_wI σ s1 (upd (σ.1 s1) 29 s0)) Q) := ev_Hc (c := ab_k s1 = 10) d136_18 rfl rfl rfl rfl rfl rfl rfl rfl
theorem d136_21 : decode (ab_C 136) 21 = .ok (.aload_n 0, 1) := by decide +kernel
theorem e136_21 {d : Nat} {l1 l2 : Option Value} {x : Nat} {σ : ab_St} {Q : Option Value → ab_St → Prop} : Ev d 136 21 [some (.ref x), l1, l2] [] σ Q = Ev d 136 22 [some (.ref x), l1, l2] [.ref x] σ Q := ev_A1 d136_21 rfl
theorem d136_22 : decode (ab_C 136) 22 = .ok (.getfield 57, 3) := by decide +kernel
theorem e136_22 {d : Nat} {l0 l1 l2 : Option Value} {s0 : Nat} {σ : ab_St} {Q : Option Value → ab_St → Prop} : Ev d 136 22 [l0, l1, l2] [.ref s0] σ Q = (ab_k s0 = 10 ∧ Ev d 136 25 [l0, l1, l2] [.ref (ab_r s0 28)] σ Q) := ev_Hc (c := ab_k s0 = 10) d136_22 rfl rfl rfl rfl rfl rfl rfl rfl
theorem d136_25 : decode (ab_C 136) 25 = .ok (.aload_n 0, 1) := by decide +kernel
theorem e136_25 {d : Nat} {l1 l2 : Option Value} {x : Nat} {s0 : Nat} {σ : ab_St} {Q : Option Value → ab_St → Prop} : Ev d 136 25 [some (.ref x), l1, l2] [.ref s0] σ Q = Ev d 136 26 [some (.ref x), l1, l2] [.ref x, .ref s0] σ Q := ev_A1 d136_25 rfl
theorem d136_26 : decode (ab_C 136) 26 = .ok (.getfield 16, 3) := by decide +kernel
theorem e136_26 {d : Nat} {l0 l1 l2 : Option Value} {s0 : Nat} {s1 : Nat} {σ : ab_St} {Q : Option Value → ab_St → Prop} : Ev d 136 26 [l0, l1, l2] [.ref s0, .ref s1] σ Q = (ab_k s0 = 10 ∧ Ev d 136 29 [l0, l1, l2] [.ref (ab_r s0 9), .ref s1] σ Q) := ev_Hc (c := ab_k s0 = 10) d136_26 rfl rfl rfl rfl rfl rfl rfl rfl
theorem d136_29 : decode (ab_C 136) 29 = .ok (.iload_n 2, 1) := by decide +kernel
theorem e136_29 {d : Nat} {l0 l1 : Option Value} {x : Int32} {s0 : Nat} {s1 : Nat} {σ : ab_St} {Q : Option Value → ab_St → Prop} : Ev d 136 29 [l0, l1, some (.int x)] [.ref s0, .ref s1] σ Q = Ev d 136 30 [l0, l1, some (.int x)] [.int x, .ref s0, .ref s1] σ Q := ev_A1 d136_29 rfl
theorem d136_30 : decode (ab_C 136) 30 = .ok (.iaload, 1) := by decide +kernel
theorem e136_30 {d : Nat} {l0 l1 l2 : Option Value} {s0 : Int32} {s1 : Nat} {s2 : Nat} {σ : ab_St} {Q : Option Value → ab_St → Prop} : Ev d 136 30 [l0, l1, l2] [.int s0, .ref s1, .ref s2] σ Q = ((ab_k s1 = 100 ∧ ab_in s0 (ab_n s1)) ∧ Ev d 136 31 [l0, l1, l2] [.int (σ.1 s1 s0.toNatClampNeg), .ref s2] σ Q) := ev_Hc (c := ab_k s1 = 100 ∧ ab_in s0 (ab_n s1)) d136_30 rfl rfl rfl rfl rfl rfl rfl rfl
theorem d136_31 : decode (ab_C 136) 31 = .ok (.dup2, 1) := by decide +kernel
theorem e136_31 {d : Nat} {l0 l1 l2 : Option Value} {s0 : Int32} {s1 : Nat} {σ : ab_St} {Q : Option Value → ab_St → Prop} : Ev d 136 31 [l0, l1, l2] [.int s0, .ref s1] σ Q = Ev d 136 32 [l0, l1, l2] [.int s0, .ref s1, .int s0, .ref s1] σ Q := ev_A1 d136_31 rfl
theorem d136_32 : decode (ab_C 136) 32 = .ok (.iaload, 1) := by decide +kernel
theorem e136_32 {d : Nat} {l0 l1 l2 : Option Value} {s0 : Int32} {s1 : Nat} {s2 : Int32} {s3 : Nat} {σ : ab_St} {Q : Option Value → ab_St → Prop} : Ev d 136 32 [l0, l1, l2] [.int s0, .ref s1, .int s2, .ref s3] σ Q = ((ab_k s1 = 100 ∧ ab_in s0 (ab_n s1)) ∧ Ev d 136 33 [l0, l1, l2] [.int (σ.1 s1 s0.toNatClampNeg), .int s2, .ref s3] σ Q) := ev_Hc (c := ab_k s1 = 100 ∧ ab_in s0 (ab_n s1)) d136_32 rfl rfl rfl rfl rfl rfl rfl rfl
theorem d136_33 : decode (ab_C 136) 33 = .ok (.aload_n 0, 1) := by decide +kernel
theorem e136_33 {d : Nat} {l1 l2 : Option Value} {x : Nat} {s0 : Int32} {s1 : Int32} {s2 : Nat} {σ : ab_St} {Q : Option Value → ab_St → Prop} : Ev d 136 33 [some (.ref x), l1, l2] [.int s0, .int s1, .ref s2] σ Q = Ev d 136 34 [some (.ref x), l1, l2] [.ref x, .int s0, .int s1, .ref s2] σ Q := ev_A1 d136_33 rfl
theorem d136_34 : decode (ab_C 136) 34 = .ok (.getfield 19, 3) := by decide +kernel
theorem e136_34 {d : Nat} {l0 l1 l2 : Option Value} {s0 : Nat} {s1 : Int32} {s2 : Int32} {s3 : Nat} {σ : ab_St} {Q : Option Value → ab_St → Prop} : Ev d 136 34 [l0, l1, l2] [.ref s0, .int s1, .int s2, .ref s3] σ Q = (ab_k s0 = 10 ∧ Ev d 136 37 [l0, l1, l2] [.ref (ab_r s0 10), .int s1, .int s2, .ref s3] σ Q) := ev_Hc (c := ab_k s0 = 10) d136_34 rfl rfl rfl rfl rfl rfl rfl rfl
theorem d136_37 : decode (ab_C 136) 37 = .ok (.iload_n 2, 1) := by decide +kernel
theorem e136_37 {d : Nat} {l0 l1 : Option Value} {x : Int32} {s0 : Nat} {s1 : Int32} {s2 : Int32} {s3 : Nat} {σ : ab_St} {Q : Option Value → ab_St → Prop} : Ev d 136 37 [l0, l1, some (.int x)] [.ref s0, .int s1, .int s2, .ref s3] σ Q = Ev d 136 38 [l0, l1, some (.int x)] [.int x, .ref s0, .int s1, .int s2, .ref s3] σ Q := ev_A1 d136_37 rfl
theorem d136_38 : decode (ab_C 136) 38 = .ok (.iaload, 1) := by decide +kernel
theorem e136_38 {d : Nat} {l0 l1 l2 : Option Value} {s0 : Int32} {s1 : Nat} {s2 : Int32} {s3 : Int32} {s4 : Nat} {σ : ab_St} {Q : Option Value → ab_St → Prop} : Ev d 136 38 [l0, l1, l2] [.int s0, .ref s1, .int s2, .int s3, .ref s4] σ Q = ((ab_k s1 = 100 ∧ ab_in s0 (ab_n s1)) ∧ Ev d 136 39 [l0, l1, l2] [.int (σ.1 s1 s0.toNatClampNeg), .int s2, .int s3, .ref s4] σ Q) := ev_Hc (c := ab_k s1 = 100 ∧ ab_in s0 (ab_n s1)) d136_38 rfl rfl rfl rfl rfl rfl rfl rfl
theorem d136_39 : decode (ab_C 136) 39 = .ok (.isub, 1) := by decide +kernel
theorem e136_39 {d : Nat} {l0 l1 l2 : Option Value} {s0 : Int32} {s1 : Int32} {s2 : Int32} {s3 : Nat} {σ : ab_St} {Q : Option Value → ab_St → Prop} : Ev d 136 39 [l0, l1, l2] [.int s0, .int s1, .int s2, .ref s3] σ Q = Ev d 136 40 [l0, l1, l2] [.int (s1 - s0), .int s2, .ref s3] σ Q := ev_A2 d136_39 rfl rfl
theorem d136_40 : decode (ab_C 136) 40 = .ok (.iastore, 1) := by decide +kernel
theorem e136_40 {d : Nat} {l0 l1 l2 : Option Value} {s0 : Int32} {s1 : Int32} {s2 : Nat} {σ : ab_St} {Q : Option Value → ab_St → Prop} : Ev d 136 40 [l0, l1, l2] [.int s0, .int s1, .ref s2] σ Q = ((ab_k s2 = 100 ∧ ab_in s1 (ab_n s2)) ∧ Ev d 136 41 [l0, l1, l2] [] (ab_wI σ s2 (upd (σ.1 s2) s1.toNatClampNeg s0)) Q) := ev_Hc (c := ab_k s2 = 100 ∧ ab_in s1 (ab_n s2)) d136_40 rfl rfl rfl rfl rfl rfl rfl rfl
theorem d136_41 : decode (ab_C 136) 41 = .ok (.aload_n 0, 1) := by decide +kernel
theorem e136_41 {d : Nat} {l1 l2 : Option Value} {x : Nat} {σ : ab_St} {Q : Option Value → ab_St → Prop} : Ev d 136 41 [some (.ref x), l1, l2] [] σ Q = Ev d 136 42 [some (.ref x), l1, l2] [.ref x] σ Q := ev_A1 d136_41 rfl
theorem d136_42 : decode (ab_C 136) 42 = .ok (.aload_n 0, 1) := by decide +kernel
theorem e136_42 {d : Nat} {l1 l2 : Option Value} {x : Nat} {s0 : Nat} {σ : ab_St} {Q : Option Value → ab_St → Prop} : Ev d 136 42 [some (.ref x), l1, l2] [.ref s0] σ Q = Ev d 136 43 [some (.ref x), l1, l2] [.ref x, .ref s0] σ Q := ev_A1 d136_42 rfl
theorem d136_43 : decode (ab_C 136) 43 = .ok (.getfield 63, 3) := by decide +kernel
theorem e136_43 {d : Nat} {l0 l1 l2 : Option Value} {s0 : Nat} {s1 : Nat} {σ : ab_St} {Q : Option Value → ab_St → Prop} : Ev d 136 43 [l0, l1, l2] [.ref s0, .ref s1] σ Q = (ab_k s0 = 10 ∧ Ev d 136 46 [l0, l1, l2] [.ref (ab_r s0 32), .ref s1] σ Q) := ev_Hc (c := ab_k s0 = 10) d136_43 rfl rfl rfl rfl rfl rfl rfl rfl
theorem d136_46 : decode (ab_C 136) 46 = .ok (.iload_n 1, 1) := by decide +kernel
theorem e136_46 {d : Nat} {l0 l2 : Option Value} {x : Int32} {s0 : Nat} {s1 : Nat} {σ : ab_St} {Q : Option Value → ab_St → Prop} : Ev d 136 46 [l0, some (.int x), l2] [.ref s0, .ref s1] σ Q = Ev d 136 47 [l0, some (.int x), l2] [.int x, .ref s0, .ref s1] σ Q := ev_A1 d136_46 rfl
theorem d136_47 : decode (ab_C 136) 47 = .ok (.iaload, 1) := by decide +kernel
theorem e136_47 {d : Nat} {l0 l1 l2 : Option Value} {s0 : Int32} {s1 : Nat} {s2 : Nat} {σ : ab_St} {Q : Option Value → ab_St → Prop} : Ev d 136 47 [l0, l1, l2] [.int s0, .ref s1, .ref s2] σ Q = ((ab_k s1 = 100 ∧ ab_in s0 (ab_n s1)) ∧ Ev d 136 48 [l0, l1, l2] [.int (σ.1 s1 s0.toNatClampNeg), .ref s2] σ Q) := ev_Hc (c := ab_k s1 = 100 ∧ ab_in s0 (ab_n s1)) d136_47 rfl rfl rfl rfl rfl rfl rfl rfl
theorem d136_48 : decode (ab_C 136) 48 = .ok (.putfield 150, 3) := by decide +kernel
theorem e136_48 {d : Nat} {l0 l1 l2 : Option Value} {s0 : Int32} {s1 : Nat} {σ : ab_St} {Q : Option Value → ab_St → Prop} : Ev d 136 48 [l0, l1, l2] [.int s0, .ref s1] σ Q = (ab_k s1 = 10 ∧ Ev d 136 51 [l0, l1, l2] [] (ab_wI σ s1 (upd (σ.1 s1) 30 s0)) Q) := ev_Hc (c := ab_k s1 = 10) d136_48 rfl rfl rfl rfl rfl rfl rfl rfl
theorem d136_51 : decode (ab_C 136) 51 = .ok (.return_, 1) := by decide +kernel
theorem e136_51 {d : Nat} {l0 l1 l2 : Option Value} {σ : ab_St} {Q : Option Value → ab_St → Prop} : Ev d 136 51 [l0, l1, l2] [] σ Q = Q none σ := ev_E d136_51 rfl rfl rfl rfl rfl rfl rfl
