/-! SaidLeast$Orders.goodByNext(LSaidLeast$Told;I)I -/
theorem d73_0 : decode (ab_C 73) 0 = .ok (.iconst 0, 1) := by decide +kernel
theorem e73_0 {d : Nat} {l0 l1 l2 l3 l4 l5 : Option Value} {σ : ab_St} {Q : Option Value → ab_St → Prop} : Ev d 73 0 [l0, l1, l2, l3, l4, l5] [] σ Q = Ev d 73 1 [l0, l1, l2, l3, l4, l5] [.int 0] σ Q := ev_A1 d73_0 rfl
theorem d73_1 : decode (ab_C 73) 1 = .ok (.istore_n 3, 1) := by decide +kernel
theorem e73_1 {d : Nat} {l0 l1 l2 l3 l4 l5 : Option Value} {s0 : Int32} {σ : ab_St} {Q : Option Value → ab_St → Prop} : Ev d 73 1 [l0, l1, l2, l3, l4, l5] [.int s0] σ Q = Ev d 73 2 [l0, l1, l2, some (.int s0), l4, l5] [] σ Q := ev_S d73_1 rfl rfl rfl rfl
theorem d73_2 : decode (ab_C 73) 2 = .ok (.iconst 0, 1) := by decide +kernel
theorem e73_2 {d : Nat} {l0 l1 l2 l3 l4 l5 : Option Value} {σ : ab_St} {Q : Option Value → ab_St → Prop} : Ev d 73 2 [l0, l1, l2, l3, l4, l5] [] σ Q = Ev d 73 3 [l0, l1, l2, l3, l4, l5] [.int 0] σ Q := ev_A1 d73_2 rfl
theorem d73_3 : decode (ab_C 73) 3 = .ok (.istore 4, 2) := by decide +kernel
theorem e73_3 {d : Nat} {l0 l1 l2 l3 l4 l5 : Option Value} {s0 : Int32} {σ : ab_St} {Q : Option Value → ab_St → Prop} : Ev d 73 3 [l0, l1, l2, l3, l4, l5] [.int s0] σ Q = Ev d 73 5 [l0, l1, l2, l3, some (.int s0), l5] [] σ Q := ev_S d73_3 rfl rfl rfl rfl
theorem d73_5 : decode (ab_C 73) 5 = .ok (.iload 4, 2) := by decide +kernel
theorem e73_5 {d : Nat} {l0 l1 l2 l3 l5 : Option Value} {x : Int32} {σ : ab_St} {Q : Option Value → ab_St → Prop} : Ev d 73 5 [l0, l1, l2, l3, some (.int x), l5] [] σ Q = Ev d 73 7 [l0, l1, l2, l3, some (.int x), l5] [.int x] σ Q := ev_A1 d73_5 rfl
theorem d73_7 : decode (ab_C 73) 7 = .ok (.aload_n 1, 1) := by decide +kernel
theorem e73_7 {d : Nat} {l0 l2 l3 l4 l5 : Option Value} {x : Nat} {s0 : Int32} {σ : ab_St} {Q : Option Value → ab_St → Prop} : Ev d 73 7 [l0, some (.ref x), l2, l3, l4, l5] [.int s0] σ Q = Ev d 73 8 [l0, some (.ref x), l2, l3, l4, l5] [.ref x, .int s0] σ Q := ev_A1 d73_7 rfl
theorem d73_8 : decode (ab_C 73) 8 = .ok (.getfield 59, 3) := by decide +kernel
theorem e73_8 {d : Nat} {l0 l1 l2 l3 l4 l5 : Option Value} {s0 : Nat} {s1 : Int32} {σ : ab_St} {Q : Option Value → ab_St → Prop} : Ev d 73 8 [l0, l1, l2, l3, l4, l5] [.ref s0, .int s1] σ Q = (ab_k s0 = 3 ∧ Ev d 73 11 [l0, l1, l2, l3, l4, l5] [.int (σ.1 s0 5), .int s1] σ Q) := ev_Hc (c := ab_k s0 = 3) d73_8 rfl rfl rfl rfl rfl rfl rfl rfl
theorem d73_11 : decode (ab_C 73) 11 = .ok (.if_icmp .ge 74, 3) := by decide +kernel
theorem e73_11 {d : Nat} {l0 l1 l2 l3 l4 l5 : Option Value} {s0 : Int32} {s1 : Int32} {σ : ab_St} {Q : Option Value → ab_St → Prop} : Ev d 73 11 [l0, l1, l2, l3, l4, l5] [.int s0, .int s1] σ Q = if s0 ≤ s1 then Ev d 73 85 [l0, l1, l2, l3, l4, l5] [] σ Q else Ev d 73 14 [l0, l1, l2, l3, l4, l5] [] σ Q := ev_B (c := s0 ≤ s1) d73_11 rfl rfl rfl rfl rfl
theorem d73_14 : decode (ab_C 73) 14 = .ok (.aload_n 0, 1) := by decide +kernel
theorem e73_14 {d : Nat} {l1 l2 l3 l4 l5 : Option Value} {x : Nat} {σ : ab_St} {Q : Option Value → ab_St → Prop} : Ev d 73 14 [some (.ref x), l1, l2, l3, l4, l5] [] σ Q = Ev d 73 15 [some (.ref x), l1, l2, l3, l4, l5] [.ref x] σ Q := ev_A1 d73_14 rfl
theorem d73_15 : decode (ab_C 73) 15 = .ok (.getfield 22, 3) := by decide +kernel
theorem e73_15 {d : Nat} {l0 l1 l2 l3 l4 l5 : Option Value} {s0 : Nat} {σ : ab_St} {Q : Option Value → ab_St → Prop} : Ev d 73 15 [l0, l1, l2, l3, l4, l5] [.ref s0] σ Q = (ab_k s0 = 6 ∧ Ev d 73 18 [l0, l1, l2, l3, l4, l5] [.ref (ab_r s0 2)] σ Q) := ev_Hc (c := ab_k s0 = 6) d73_15 rfl rfl rfl rfl rfl rfl rfl rfl
theorem d73_18 : decode (ab_C 73) 18 = .ok (.iload_n 2, 1) := by decide +kernel
theorem e73_18 {d : Nat} {l0 l1 l3 l4 l5 : Option Value} {x : Int32} {s0 : Nat} {σ : ab_St} {Q : Option Value → ab_St → Prop} : Ev d 73 18 [l0, l1, some (.int x), l3, l4, l5] [.ref s0] σ Q = Ev d 73 19 [l0, l1, some (.int x), l3, l4, l5] [.int x, .ref s0] σ Q := ev_A1 d73_18 rfl
theorem d73_19 : decode (ab_C 73) 19 = .ok (.iaload, 1) := by decide +kernel
theorem e73_19 {d : Nat} {l0 l1 l2 l3 l4 l5 : Option Value} {s0 : Int32} {s1 : Nat} {σ : ab_St} {Q : Option Value → ab_St → Prop} : Ev d 73 19 [l0, l1, l2, l3, l4, l5] [.int s0, .ref s1] σ Q = ((ab_k s1 = 100 ∧ ab_in s0 (ab_n s1)) ∧ Ev d 73 20 [l0, l1, l2, l3, l4, l5] [.int (σ.1 s1 s0.toNatClampNeg)] σ Q) := ev_Hc (c := ab_k s1 = 100 ∧ ab_in s0 (ab_n s1)) d73_19 rfl rfl rfl rfl rfl rfl rfl rfl
theorem d73_20 : decode (ab_C 73) 20 = .ok (.iload 4, 2) := by decide +kernel
theorem e73_20 {d : Nat} {l0 l1 l2 l3 l5 : Option Value} {x : Int32} {s0 : Int32} {σ : ab_St} {Q : Option Value → ab_St → Prop} : Ev d 73 20 [l0, l1, l2, l3, some (.int x), l5] [.int s0] σ Q = Ev d 73 22 [l0, l1, l2, l3, some (.int x), l5] [.int x, .int s0] σ Q := ev_A1 d73_20 rfl
theorem d73_22 : decode (ab_C 73) 22 = .ok (.invokestatic 64, 3) := by decide +kernel
theorem e73_22 {d : Nat} {l0 l1 l2 l3 l4 l5 : Option Value} {s0 : Int32} {s1 : Int32} {σ : ab_St} {Q : Option Value → ab_St → Prop} : Ev (d + 1) 73 22 [l0, l1, l2, l3, l4, l5] [.int s0, .int s1] σ Q = Ev d 32 0 [some (.int s1), some (.int s0)] [] σ (fun r σ2 => Ev (d + 1) 73 25 [l0, l1, l2, l3, l4, l5] (r.toList ++ []) σ2 Q) := ev_K0 (y := 32) (ls := [l0, l1, l2, l3, l4, l5]) (st := [.int s0, .int s1]) (as := [.int s1, .int s0]) (rest := []) d73_22 rfl rfl rfl rfl rfl rfl rfl rfl
theorem d73_25 : decode (ab_C 73) 25 = .ok (.ifCond .eq 54, 3) := by decide +kernel
theorem e73_25 {d : Nat} {l0 l1 l2 l3 l4 l5 : Option Value} {s0 : Int32} {σ : ab_St} {Q : Option Value → ab_St → Prop} : Ev d 73 25 [l0, l1, l2, l3, l4, l5] [.int s0] σ Q = if s0 = 0 then Ev d 73 79 [l0, l1, l2, l3, l4, l5] [] σ Q else Ev d 73 28 [l0, l1, l2, l3, l4, l5] [] σ Q := ev_B (c := s0 = 0) d73_25 rfl rfl rfl rfl rfl
theorem d73_28 : decode (ab_C 73) 28 = .ok (.aload_n 0, 1) := by decide +kernel
theorem e73_28 {d : Nat} {l1 l2 l3 l4 l5 : Option Value} {x : Nat} {σ : ab_St} {Q : Option Value → ab_St → Prop} : Ev d 73 28 [some (.ref x), l1, l2, l3, l4, l5] [] σ Q = Ev d 73 29 [some (.ref x), l1, l2, l3, l4, l5] [.ref x] σ Q := ev_A1 d73_28 rfl
theorem d73_29 : decode (ab_C 73) 29 = .ok (.getfield 31, 3) := by decide +kernel
theorem e73_29 {d : Nat} {l0 l1 l2 l3 l4 l5 : Option Value} {s0 : Nat} {σ : ab_St} {Q : Option Value → ab_St → Prop} : Ev d 73 29 [l0, l1, l2, l3, l4, l5] [.ref s0] σ Q = (ab_k s0 = 6 ∧ Ev d 73 32 [l0, l1, l2, l3, l4, l5] [.ref (ab_r s0 5)] σ Q) := ev_Hc (c := ab_k s0 = 6) d73_29 rfl rfl rfl rfl rfl rfl rfl rfl
theorem d73_32 : decode (ab_C 73) 32 = .ok (.iload_n 2, 1) := by decide +kernel
theorem e73_32 {d : Nat} {l0 l1 l3 l4 l5 : Option Value} {x : Int32} {s0 : Nat} {σ : ab_St} {Q : Option Value → ab_St → Prop} : Ev d 73 32 [l0, l1, some (.int x), l3, l4, l5] [.ref s0] σ Q = Ev d 73 33 [l0, l1, some (.int x), l3, l4, l5] [.int x, .ref s0] σ Q := ev_A1 d73_32 rfl
theorem d73_33 : decode (ab_C 73) 33 = .ok (.iconst 1, 1) := by decide +kernel
theorem e73_33 {d : Nat} {l0 l1 l2 l3 l4 l5 : Option Value} {s0 : Int32} {s1 : Nat} {σ : ab_St} {Q : Option Value → ab_St → Prop} : Ev d 73 33 [l0, l1, l2, l3, l4, l5] [.int s0, .ref s1] σ Q = Ev d 73 34 [l0, l1, l2, l3, l4, l5] [.int 1, .int s0, .ref s1] σ Q := ev_A1 d73_33 rfl
theorem d73_34 : decode (ab_C 73) 34 = .ok (.iload 4, 2) := by decide +kernel
theorem e73_34 {d : Nat} {l0 l1 l2 l3 l5 : Option Value} {x : Int32} {s0 : Int32} {s1 : Int32} {s2 : Nat} {σ : ab_St} {Q : Option Value → ab_St → Prop} : Ev d 73 34 [l0, l1, l2, l3, some (.int x), l5] [.int s0, .int s1, .ref s2] σ Q = Ev d 73 36 [l0, l1, l2, l3, some (.int x), l5] [.int x, .int s0, .int s1, .ref s2] σ Q := ev_A1 d73_34 rfl
theorem d73_36 : decode (ab_C 73) 36 = .ok (.ishl, 1) := by decide +kernel
theorem e73_36 {d : Nat} {l0 l1 l2 l3 l4 l5 : Option Value} {s0 : Int32} {s1 : Int32} {s2 : Int32} {s3 : Nat} {σ : ab_St} {Q : Option Value → ab_St → Prop} : Ev d 73 36 [l0, l1, l2, l3, l4, l5] [.int s0, .int s1, .int s2, .ref s3] σ Q = Ev d 73 37 [l0, l1, l2, l3, l4, l5] [.int (s1 <<< (s0 &&& 31)), .int s2, .ref s3] σ Q := ev_A2 d73_36 rfl rfl
theorem d73_37 : decode (ab_C 73) 37 = .ok (.ior, 1) := by decide +kernel
theorem e73_37 {d : Nat} {l0 l1 l2 l3 l4 l5 : Option Value} {s0 : Int32} {s1 : Int32} {s2 : Nat} {σ : ab_St} {Q : Option Value → ab_St → Prop} : Ev d 73 37 [l0, l1, l2, l3, l4, l5] [.int s0, .int s1, .ref s2] σ Q = Ev d 73 38 [l0, l1, l2, l3, l4, l5] [.int (s1 ||| s0), .ref s2] σ Q := ev_A2 d73_37 rfl rfl
theorem d73_38 : decode (ab_C 73) 38 = .ok (.iaload, 1) := by decide +kernel
theorem e73_38 {d : Nat} {l0 l1 l2 l3 l4 l5 : Option Value} {s0 : Int32} {s1 : Nat} {σ : ab_St} {Q : Option Value → ab_St → Prop} : Ev d 73 38 [l0, l1, l2, l3, l4, l5] [.int s0, .ref s1] σ Q = ((ab_k s1 = 100 ∧ ab_in s0 (ab_n s1)) ∧ Ev d 73 39 [l0, l1, l2, l3, l4, l5] [.int (σ.1 s1 s0.toNatClampNeg)] σ Q) := ev_Hc (c := ab_k s1 = 100 ∧ ab_in s0 (ab_n s1)) d73_38 rfl rfl rfl rfl rfl rfl rfl rfl
theorem d73_39 : decode (ab_C 73) 39 = .ok (.iload 4, 2) := by decide +kernel
theorem e73_39 {d : Nat} {l0 l1 l2 l3 l5 : Option Value} {x : Int32} {s0 : Int32} {σ : ab_St} {Q : Option Value → ab_St → Prop} : Ev d 73 39 [l0, l1, l2, l3, some (.int x), l5] [.int s0] σ Q = Ev d 73 41 [l0, l1, l2, l3, some (.int x), l5] [.int x, .int s0] σ Q := ev_A1 d73_39 rfl
theorem d73_41 : decode (ab_C 73) 41 = .ok (.invokestatic 64, 3) := by decide +kernel
theorem e73_41 {d : Nat} {l0 l1 l2 l3 l4 l5 : Option Value} {s0 : Int32} {s1 : Int32} {σ : ab_St} {Q : Option Value → ab_St → Prop} : Ev (d + 1) 73 41 [l0, l1, l2, l3, l4, l5] [.int s0, .int s1] σ Q = Ev d 32 0 [some (.int s1), some (.int s0)] [] σ (fun r σ2 => Ev (d + 1) 73 44 [l0, l1, l2, l3, l4, l5] (r.toList ++ []) σ2 Q) := ev_K0 (y := 32) (ls := [l0, l1, l2, l3, l4, l5]) (st := [.int s0, .int s1]) (as := [.int s1, .int s0]) (rest := []) d73_41 rfl rfl rfl rfl rfl rfl rfl rfl
theorem d73_44 : decode (ab_C 73) 44 = .ok (.ifCond .eq 35, 3) := by decide +kernel
theorem e73_44 {d : Nat} {l0 l1 l2 l3 l4 l5 : Option Value} {s0 : Int32} {σ : ab_St} {Q : Option Value → ab_St → Prop} : Ev d 73 44 [l0, l1, l2, l3, l4, l5] [.int s0] σ Q = if s0 = 0 then Ev d 73 79 [l0, l1, l2, l3, l4, l5] [] σ Q else Ev d 73 47 [l0, l1, l2, l3, l4, l5] [] σ Q := ev_B (c := s0 = 0) d73_44 rfl rfl rfl rfl rfl
theorem d73_47 : decode (ab_C 73) 47 = .ok (.aload_n 1, 1) := by decide +kernel
theorem e73_47 {d : Nat} {l0 l2 l3 l4 l5 : Option Value} {x : Nat} {σ : ab_St} {Q : Option Value → ab_St → Prop} : Ev d 73 47 [l0, some (.ref x), l2, l3, l4, l5] [] σ Q = Ev d 73 48 [l0, some (.ref x), l2, l3, l4, l5] [.ref x] σ Q := ev_A1 d73_47 rfl
theorem d73_48 : decode (ab_C 73) 48 = .ok (.getfield 91, 3) := by decide +kernel
theorem e73_48 {d : Nat} {l0 l1 l2 l3 l4 l5 : Option Value} {s0 : Nat} {σ : ab_St} {Q : Option Value → ab_St → Prop} : Ev d 73 48 [l0, l1, l2, l3, l4, l5] [.ref s0] σ Q = (ab_k s0 = 3 ∧ Ev d 73 51 [l0, l1, l2, l3, l4, l5] [.ref (ab_r s0 3)] σ Q) := ev_Hc (c := ab_k s0 = 3) d73_48 rfl rfl rfl rfl rfl rfl rfl rfl
theorem d73_51 : decode (ab_C 73) 51 = .ok (.iload 4, 2) := by decide +kernel
theorem e73_51 {d : Nat} {l0 l1 l2 l3 l5 : Option Value} {x : Int32} {s0 : Nat} {σ : ab_St} {Q : Option Value → ab_St → Prop} : Ev d 73 51 [l0, l1, l2, l3, some (.int x), l5] [.ref s0] σ Q = Ev d 73 53 [l0, l1, l2, l3, some (.int x), l5] [.int x, .ref s0] σ Q := ev_A1 d73_51 rfl
theorem d73_53 : decode (ab_C 73) 53 = .ok (.iaload, 1) := by decide +kernel
theorem e73_53 {d : Nat} {l0 l1 l2 l3 l4 l5 : Option Value} {s0 : Int32} {s1 : Nat} {σ : ab_St} {Q : Option Value → ab_St → Prop} : Ev d 73 53 [l0, l1, l2, l3, l4, l5] [.int s0, .ref s1] σ Q = ((ab_k s1 = 100 ∧ ab_in s0 (ab_n s1)) ∧ Ev d 73 54 [l0, l1, l2, l3, l4, l5] [.int (σ.1 s1 s0.toNatClampNeg)] σ Q) := ev_Hc (c := ab_k s1 = 100 ∧ ab_in s0 (ab_n s1)) d73_53 rfl rfl rfl rfl rfl rfl rfl rfl
theorem d73_54 : decode (ab_C 73) 54 = .ok (.istore 5, 2) := by decide +kernel
theorem e73_54 {d : Nat} {l0 l1 l2 l3 l4 l5 : Option Value} {s0 : Int32} {σ : ab_St} {Q : Option Value → ab_St → Prop} : Ev d 73 54 [l0, l1, l2, l3, l4, l5] [.int s0] σ Q = Ev d 73 56 [l0, l1, l2, l3, l4, some (.int s0)] [] σ Q := ev_S d73_54 rfl rfl rfl rfl
theorem d73_56 : decode (ab_C 73) 56 = .ok (.iload_n 3, 1) := by decide +kernel
theorem e73_56 {d : Nat} {l0 l1 l2 l4 l5 : Option Value} {x : Int32} {σ : ab_St} {Q : Option Value → ab_St → Prop} : Ev d 73 56 [l0, l1, l2, some (.int x), l4, l5] [] σ Q = Ev d 73 57 [l0, l1, l2, some (.int x), l4, l5] [.int x] σ Q := ev_A1 d73_56 rfl
theorem d73_57 : decode (ab_C 73) 57 = .ok (.iload 5, 2) := by decide +kernel
theorem e73_57 {d : Nat} {l0 l1 l2 l3 l4 : Option Value} {x : Int32} {s0 : Int32} {σ : ab_St} {Q : Option Value → ab_St → Prop} : Ev d 73 57 [l0, l1, l2, l3, l4, some (.int x)] [.int s0] σ Q = Ev d 73 59 [l0, l1, l2, l3, l4, some (.int x)] [.int x, .int s0] σ Q := ev_A1 d73_57 rfl
theorem d73_59 : decode (ab_C 73) 59 = .ok (.bipush (-9), 2) := by decide +kernel
theorem e73_59 {d : Nat} {l0 l1 l2 l3 l4 l5 : Option Value} {s0 : Int32} {s1 : Int32} {σ : ab_St} {Q : Option Value → ab_St → Prop} : Ev d 73 59 [l0, l1, l2, l3, l4, l5] [.int s0, .int s1] σ Q = Ev d 73 61 [l0, l1, l2, l3, l4, l5] [.int (-9), .int s0, .int s1] σ Q := ev_A1 d73_59 rfl
theorem d73_61 : decode (ab_C 73) 61 = .ok (.if_icmp .ne 12, 3) := by decide +kernel
theorem e73_61 {d : Nat} {l0 l1 l2 l3 l4 l5 : Option Value} {s0 : Int32} {s1 : Int32} {s2 : Int32} {σ : ab_St} {Q : Option Value → ab_St → Prop} : Ev d 73 61 [l0, l1, l2, l3, l4, l5] [.int s0, .int s1, .int s2] σ Q = if s1 = s0 then Ev d 73 64 [l0, l1, l2, l3, l4, l5] [.int s2] σ Q else Ev d 73 73 [l0, l1, l2, l3, l4, l5] [.int s2] σ Q := ev_B (c := s1 = s0) d73_61 rfl rfl rfl rfl rfl
theorem d73_64 : decode (ab_C 73) 64 = .ok (.aload_n 0, 1) := by decide +kernel
theorem e73_64 {d : Nat} {l1 l2 l3 l4 l5 : Option Value} {x : Nat} {s0 : Int32} {σ : ab_St} {Q : Option Value → ab_St → Prop} : Ev d 73 64 [some (.ref x), l1, l2, l3, l4, l5] [.int s0] σ Q = Ev d 73 65 [some (.ref x), l1, l2, l3, l4, l5] [.ref x, .int s0] σ Q := ev_A1 d73_64 rfl
theorem d73_65 : decode (ab_C 73) 65 = .ok (.getfield 18, 3) := by decide +kernel
theorem e73_65 {d : Nat} {l0 l1 l2 l3 l4 l5 : Option Value} {s0 : Nat} {s1 : Int32} {σ : ab_St} {Q : Option Value → ab_St → Prop} : Ev d 73 65 [l0, l1, l2, l3, l4, l5] [.ref s0, .int s1] σ Q = (ab_k s0 = 6 ∧ Ev d 73 68 [l0, l1, l2, l3, l4, l5] [.ref (ab_r s0 1), .int s1] σ Q) := ev_Hc (c := ab_k s0 = 6) d73_65 rfl rfl rfl rfl rfl rfl rfl rfl
theorem d73_68 : decode (ab_C 73) 68 = .ok (.iload_n 2, 1) := by decide +kernel
theorem e73_68 {d : Nat} {l0 l1 l3 l4 l5 : Option Value} {x : Int32} {s0 : Nat} {s1 : Int32} {σ : ab_St} {Q : Option Value → ab_St → Prop} : Ev d 73 68 [l0, l1, some (.int x), l3, l4, l5] [.ref s0, .int s1] σ Q = Ev d 73 69 [l0, l1, some (.int x), l3, l4, l5] [.int x, .ref s0, .int s1] σ Q := ev_A1 d73_68 rfl
theorem d73_69 : decode (ab_C 73) 69 = .ok (.iaload, 1) := by decide +kernel
theorem e73_69 {d : Nat} {l0 l1 l2 l3 l4 l5 : Option Value} {s0 : Int32} {s1 : Nat} {s2 : Int32} {σ : ab_St} {Q : Option Value → ab_St → Prop} : Ev d 73 69 [l0, l1, l2, l3, l4, l5] [.int s0, .ref s1, .int s2] σ Q = ((ab_k s1 = 100 ∧ ab_in s0 (ab_n s1)) ∧ Ev d 73 70 [l0, l1, l2, l3, l4, l5] [.int (σ.1 s1 s0.toNatClampNeg), .int s2] σ Q) := ev_Hc (c := ab_k s1 = 100 ∧ ab_in s0 (ab_n s1)) d73_69 rfl rfl rfl rfl rfl rfl rfl rfl
theorem d73_70 : decode (ab_C 73) 70 = .ok (.goto 7, 3) := by decide +kernel
theorem e73_70 {d : Nat} {l0 l1 l2 l3 l4 l5 : Option Value} {s0 : Int32} {s1 : Int32} {σ : ab_St} {Q : Option Value → ab_St → Prop} : Ev d 73 70 [l0, l1, l2, l3, l4, l5] [.int s0, .int s1] σ Q = Ev d 73 77 [l0, l1, l2, l3, l4, l5] [.int s0, .int s1] σ Q := ev_J d73_70 rfl rfl rfl rfl rfl
theorem d73_73 : decode (ab_C 73) 73 = .ok (.iconst 1, 1) := by decide +kernel
theorem e73_73 {d : Nat} {l0 l1 l2 l3 l4 l5 : Option Value} {s0 : Int32} {σ : ab_St} {Q : Option Value → ab_St → Prop} : Ev d 73 73 [l0, l1, l2, l3, l4, l5] [.int s0] σ Q = Ev d 73 74 [l0, l1, l2, l3, l4, l5] [.int 1, .int s0] σ Q := ev_A1 d73_73 rfl
theorem d73_74 : decode (ab_C 73) 74 = .ok (.iload 5, 2) := by decide +kernel
theorem e73_74 {d : Nat} {l0 l1 l2 l3 l4 : Option Value} {x : Int32} {s0 : Int32} {s1 : Int32} {σ : ab_St} {Q : Option Value → ab_St → Prop} : Ev d 73 74 [l0, l1, l2, l3, l4, some (.int x)] [.int s0, .int s1] σ Q = Ev d 73 76 [l0, l1, l2, l3, l4, some (.int x)] [.int x, .int s0, .int s1] σ Q := ev_A1 d73_74 rfl
theorem d73_76 : decode (ab_C 73) 76 = .ok (.ishl, 1) := by decide +kernel
theorem e73_76 {d : Nat} {l0 l1 l2 l3 l4 l5 : Option Value} {s0 : Int32} {s1 : Int32} {s2 : Int32} {σ : ab_St} {Q : Option Value → ab_St → Prop} : Ev d 73 76 [l0, l1, l2, l3, l4, l5] [.int s0, .int s1, .int s2] σ Q = Ev d 73 77 [l0, l1, l2, l3, l4, l5] [.int (s1 <<< (s0 &&& 31)), .int s2] σ Q := ev_A2 d73_76 rfl rfl
theorem d73_77 : decode (ab_C 73) 77 = .ok (.ior, 1) := by decide +kernel
theorem e73_77 {d : Nat} {l0 l1 l2 l3 l4 l5 : Option Value} {s0 : Int32} {s1 : Int32} {σ : ab_St} {Q : Option Value → ab_St → Prop} : Ev d 73 77 [l0, l1, l2, l3, l4, l5] [.int s0, .int s1] σ Q = Ev d 73 78 [l0, l1, l2, l3, l4, l5] [.int (s1 ||| s0)] σ Q := ev_A2 d73_77 rfl rfl
theorem d73_78 : decode (ab_C 73) 78 = .ok (.istore_n 3, 1) := by decide +kernel
theorem e73_78 {d : Nat} {l0 l1 l2 l3 l4 l5 : Option Value} {s0 : Int32} {σ : ab_St} {Q : Option Value → ab_St → Prop} : Ev d 73 78 [l0, l1, l2, l3, l4, l5] [.int s0] σ Q = Ev d 73 79 [l0, l1, l2, some (.int s0), l4, l5] [] σ Q := ev_S d73_78 rfl rfl rfl rfl
theorem d73_79 : decode (ab_C 73) 79 = .ok (.iinc 4 1, 3) := by decide +kernel
theorem e73_79 {d : Nat} {l0 l1 l2 l3 l5 : Option Value} {x : Int32} {σ : ab_St} {Q : Option Value → ab_St → Prop} : Ev d 73 79 [l0, l1, l2, l3, some (.int x), l5] [] σ Q = Ev d 73 82 [l0, l1, l2, l3, some (.int (x + 1)), l5] [] σ Q := ev_S d73_79 rfl rfl rfl rfl
theorem d73_82 : decode (ab_C 73) 82 = .ok (.goto (-77), 3) := by decide +kernel
theorem e73_82 {d : Nat} {l0 l1 l2 l3 l4 l5 : Option Value} {σ : ab_St} {Q : Option Value → ab_St → Prop} : Ev d 73 82 [l0, l1, l2, l3, l4, l5] [] σ Q = Ev d 73 5 [l0, l1, l2, l3, l4, l5] [] σ Q := ev_J d73_82 rfl rfl rfl rfl rfl
theorem d73_85 : decode (ab_C 73) 85 = .ok (.iload_n 3, 1) := by decide +kernel
theorem e73_85 {d : Nat} {l0 l1 l2 l4 l5 : Option Value} {x : Int32} {σ : ab_St} {Q : Option Value → ab_St → Prop} : Ev d 73 85 [l0, l1, l2, some (.int x), l4, l5] [] σ Q = Ev d 73 86 [l0, l1, l2, some (.int x), l4, l5] [.int x] σ Q := ev_A1 d73_85 rfl
theorem d73_86 : decode (ab_C 73) 86 = .ok (.ireturn, 1) := by decide +kernel
theorem e73_86 {d : Nat} {l0 l1 l2 l3 l4 l5 : Option Value} {s0 : Int32} {σ : ab_St} {Q : Option Value → ab_St → Prop} : Ev d 73 86 [l0, l1, l2, l3, l4, l5] [.int s0] σ Q = Q (some (.int s0)) σ := ev_E d73_86 rfl rfl rfl rfl rfl rfl rfl
/-! SaidLeast$Orders.firstGood(LSaidLeast$Told;II)I -/
theorem d74_0 : decode (ab_C 74) 0 = .ok (.iconst 0, 1) := by decide +kernel
theorem e74_0 {d : Nat} {l0 l1 l2 l3 l4 : Option Value} {σ : ab_St} {Q : Option Value → ab_St → Prop} : Ev d 74 0 [l0, l1, l2, l3, l4] [] σ Q = Ev d 74 1 [l0, l1, l2, l3, l4] [.int 0] σ Q := ev_A1 d74_0 rfl
theorem d74_1 : decode (ab_C 74) 1 = .ok (.istore 4, 2) := by decide +kernel
theorem e74_1 {d : Nat} {l0 l1 l2 l3 l4 : Option Value} {s0 : Int32} {σ : ab_St} {Q : Option Value → ab_St → Prop} : Ev d 74 1 [l0, l1, l2, l3, l4] [.int s0] σ Q = Ev d 74 3 [l0, l1, l2, l3, some (.int s0)] [] σ Q := ev_S d74_1 rfl rfl rfl rfl
theorem d74_3 : decode (ab_C 74) 3 = .ok (.iload 4, 2) := by decide +kernel
theorem e74_3 {d : Nat} {l0 l1 l2 l3 : Option Value} {x : Int32} {σ : ab_St} {Q : Option Value → ab_St → Prop} : Ev d 74 3 [l0, l1, l2, l3, some (.int x)] [] σ Q = Ev d 74 5 [l0, l1, l2, l3, some (.int x)] [.int x] σ Q := ev_A1 d74_3 rfl
theorem d74_5 : decode (ab_C 74) 5 = .ok (.aload_n 1, 1) := by decide +kernel
theorem e74_5 {d : Nat} {l0 l2 l3 l4 : Option Value} {x : Nat} {s0 : Int32} {σ : ab_St} {Q : Option Value → ab_St → Prop} : Ev d 74 5 [l0, some (.ref x), l2, l3, l4] [.int s0] σ Q = Ev d 74 6 [l0, some (.ref x), l2, l3, l4] [.ref x, .int s0] σ Q := ev_A1 d74_5 rfl
theorem d74_6 : decode (ab_C 74) 6 = .ok (.getfield 59, 3) := by decide +kernel
theorem e74_6 {d : Nat} {l0 l1 l2 l3 l4 : Option Value} {s0 : Nat} {s1 : Int32} {σ : ab_St} {Q : Option Value → ab_St → Prop} : Ev d 74 6 [l0, l1, l2, l3, l4] [.ref s0, .int s1] σ Q = (ab_k s0 = 3 ∧ Ev d 74 9 [l0, l1, l2, l3, l4] [.int (σ.1 s0 5), .int s1] σ Q) := ev_Hc (c := ab_k s0 = 3) d74_6 rfl rfl rfl rfl rfl rfl rfl rfl
theorem d74_9 : decode (ab_C 74) 9 = .ok (.if_icmp .ge 58, 3) := by decide +kernel
theorem e74_9 {d : Nat} {l0 l1 l2 l3 l4 : Option Value} {s0 : Int32} {s1 : Int32} {σ : ab_St} {Q : Option Value → ab_St → Prop} : Ev d 74 9 [l0, l1, l2, l3, l4] [.int s0, .int s1] σ Q = if s0 ≤ s1 then Ev d 74 67 [l0, l1, l2, l3, l4] [] σ Q else Ev d 74 12 [l0, l1, l2, l3, l4] [] σ Q := ev_B (c := s0 ≤ s1) d74_9 rfl rfl rfl rfl rfl
theorem d74_12 : decode (ab_C 74) 12 = .ok (.aload_n 0, 1) := by decide +kernel
theorem e74_12 {d : Nat} {l1 l2 l3 l4 : Option Value} {x : Nat} {σ : ab_St} {Q : Option Value → ab_St → Prop} : Ev d 74 12 [some (.ref x), l1, l2, l3, l4] [] σ Q = Ev d 74 13 [some (.ref x), l1, l2, l3, l4] [.ref x] σ Q := ev_A1 d74_12 rfl
theorem d74_13 : decode (ab_C 74) 13 = .ok (.getfield 22, 3) := by decide +kernel
theorem e74_13 {d : Nat} {l0 l1 l2 l3 l4 : Option Value} {s0 : Nat} {σ : ab_St} {Q : Option Value → ab_St → Prop} : Ev d 74 13 [l0, l1, l2, l3, l4] [.ref s0] σ Q = (ab_k s0 = 6 ∧ Ev d 74 16 [l0, l1, l2, l3, l4] [.ref (ab_r s0 2)] σ Q) := ev_Hc (c := ab_k s0 = 6) d74_13 rfl rfl rfl rfl rfl rfl rfl rfl
theorem d74_16 : decode (ab_C 74) 16 = .ok (.iload_n 2, 1) := by decide +kernel
theorem e74_16 {d : Nat} {l0 l1 l3 l4 : Option Value} {x : Int32} {s0 : Nat} {σ : ab_St} {Q : Option Value → ab_St → Prop} : Ev d 74 16 [l0, l1, some (.int x), l3, l4] [.ref s0] σ Q = Ev d 74 17 [l0, l1, some (.int x), l3, l4] [.int x, .ref s0] σ Q := ev_A1 d74_16 rfl
theorem d74_17 : decode (ab_C 74) 17 = .ok (.iaload, 1) := by decide +kernel
theorem e74_17 {d : Nat} {l0 l1 l2 l3 l4 : Option Value} {s0 : Int32} {s1 : Nat} {σ : ab_St} {Q : Option Value → ab_St → Prop} : Ev d 74 17 [l0, l1, l2, l3, l4] [.int s0, .ref s1] σ Q = ((ab_k s1 = 100 ∧ ab_in s0 (ab_n s1)) ∧ Ev d 74 18 [l0, l1, l2, l3, l4] [.int (σ.1 s1 s0.toNatClampNeg)] σ Q) := ev_Hc (c := ab_k s1 = 100 ∧ ab_in s0 (ab_n s1)) d74_17 rfl rfl rfl rfl rfl rfl rfl rfl
theorem d74_18 : decode (ab_C 74) 18 = .ok (.iload 4, 2) := by decide +kernel
theorem e74_18 {d : Nat} {l0 l1 l2 l3 : Option Value} {x : Int32} {s0 : Int32} {σ : ab_St} {Q : Option Value → ab_St → Prop} : Ev d 74 18 [l0, l1, l2, l3, some (.int x)] [.int s0] σ Q = Ev d 74 20 [l0, l1, l2, l3, some (.int x)] [.int x, .int s0] σ Q := ev_A1 d74_18 rfl
theorem d74_20 : decode (ab_C 74) 20 = .ok (.invokestatic 64, 3) := by decide +kernel
theorem e74_20 {d : Nat} {l0 l1 l2 l3 l4 : Option Value} {s0 : Int32} {s1 : Int32} {σ : ab_St} {Q : Option Value → ab_St → Prop} : Ev (d + 1) 74 20 [l0, l1, l2, l3, l4] [.int s0, .int s1] σ Q = Ev d 32 0 [some (.int s1), some (.int s0)] [] σ (fun r σ2 => Ev (d + 1) 74 23 [l0, l1, l2, l3, l4] (r.toList ++ []) σ2 Q) := ev_K0 (y := 32) (ls := [l0, l1, l2, l3, l4]) (st := [.int s0, .int s1]) (as := [.int s1, .int s0]) (rest := []) d74_20 rfl rfl rfl rfl rfl rfl rfl rfl
theorem d74_23 : decode (ab_C 74) 23 = .ok (.ifCond .eq 38, 3) := by decide +kernel
theorem e74_23 {d : Nat} {l0 l1 l2 l3 l4 : Option Value} {s0 : Int32} {σ : ab_St} {Q : Option Value → ab_St → Prop} : Ev d 74 23 [l0, l1, l2, l3, l4] [.int s0] σ Q = if s0 = 0 then Ev d 74 61 [l0, l1, l2, l3, l4] [] σ Q else Ev d 74 26 [l0, l1, l2, l3, l4] [] σ Q := ev_B (c := s0 = 0) d74_23 rfl rfl rfl rfl rfl
theorem d74_26 : decode (ab_C 74) 26 = .ok (.aload_n 1, 1) := by decide +kernel
theorem e74_26 {d : Nat} {l0 l2 l3 l4 : Option Value} {x : Nat} {σ : ab_St} {Q : Option Value → ab_St → Prop} : Ev d 74 26 [l0, some (.ref x), l2, l3, l4] [] σ Q = Ev d 74 27 [l0, some (.ref x), l2, l3, l4] [.ref x] σ Q := ev_A1 d74_26 rfl
theorem d74_27 : decode (ab_C 74) 27 = .ok (.iload 4, 2) := by decide +kernel
theorem e74_27 {d : Nat} {l0 l1 l2 l3 : Option Value} {x : Int32} {s0 : Nat} {σ : ab_St} {Q : Option Value → ab_St → Prop} : Ev d 74 27 [l0, l1, l2, l3, some (.int x)] [.ref s0] σ Q = Ev d 74 29 [l0, l1, l2, l3, some (.int x)] [.int x, .ref s0] σ Q := ev_A1 d74_27 rfl
theorem d74_29 : decode (ab_C 74) 29 = .ok (.iload_n 3, 1) := by decide +kernel
theorem e74_29 {d : Nat} {l0 l1 l2 l4 : Option Value} {x : Int32} {s0 : Int32} {s1 : Nat} {σ : ab_St} {Q : Option Value → ab_St → Prop} : Ev d 74 29 [l0, l1, l2, some (.int x), l4] [.int s0, .ref s1] σ Q = Ev d 74 30 [l0, l1, l2, some (.int x), l4] [.int x, .int s0, .ref s1] σ Q := ev_A1 d74_29 rfl
theorem d74_30 : decode (ab_C 74) 30 = .ok (.invokestatic 74, 3) := by decide +kernel
theorem e74_30 {d : Nat} {l0 l1 l2 l3 l4 : Option Value} {s0 : Int32} {s1 : Int32} {s2 : Nat} {σ : ab_St} {Q : Option Value → ab_St → Prop} : Ev (d + 1) 74 30 [l0, l1, l2, l3, l4] [.int s0, .int s1, .ref s2] σ Q = Ev d 64 0 [some (.int s0)] [] σ (fun r σ2 => Ev (d + 1) 74 33 [l0, l1, l2, l3, l4] (r.toList ++ [.int s1, .ref s2]) σ2 Q) := ev_K0 (y := 64) (ls := [l0, l1, l2, l3, l4]) (st := [.int s0, .int s1, .ref s2]) (as := [.int s0]) (rest := [.int s1, .ref s2]) d74_30 rfl rfl rfl rfl rfl rfl rfl rfl
theorem d74_33 : decode (ab_C 74) 33 = .ok (.invokestatic 97, 3) := by decide +kernel
theorem e74_33 {d : Nat} {l0 l1 l2 l3 l4 : Option Value} {s0 : Int32} {s1 : Int32} {s2 : Nat} {σ : ab_St} {Q : Option Value → ab_St → Prop} : Ev (d + 1) 74 33 [l0, l1, l2, l3, l4] [.int s0, .int s1, .ref s2] σ Q = Ev d 67 0 [some (.ref s2), some (.int s1), some (.int s0), none] [] σ (fun r σ2 => Ev (d + 1) 74 36 [l0, l1, l2, l3, l4] (r.toList ++ []) σ2 Q) := ev_K0 (y := 67) (ls := [l0, l1, l2, l3, l4]) (st := [.int s0, .int s1, .ref s2]) (as := [.ref s2, .int s1, .int s0]) (rest := []) d74_33 rfl rfl rfl rfl rfl rfl rfl rfl
theorem d74_36 : decode (ab_C 74) 36 = .ok (.ifCond .eq 25, 3) := by decide +kernel
theorem e74_36 {d : Nat} {l0 l1 l2 l3 l4 : Option Value} {s0 : Int32} {σ : ab_St} {Q : Option Value → ab_St → Prop} : Ev d 74 36 [l0, l1, l2, l3, l4] [.int s0] σ Q = if s0 = 0 then Ev d 74 61 [l0, l1, l2, l3, l4] [] σ Q else Ev d 74 39 [l0, l1, l2, l3, l4] [] σ Q := ev_B (c := s0 = 0) d74_36 rfl rfl rfl rfl rfl
theorem d74_39 : decode (ab_C 74) 39 = .ok (.aload_n 0, 1) := by decide +kernel
theorem e74_39 {d : Nat} {l1 l2 l3 l4 : Option Value} {x : Nat} {σ : ab_St} {Q : Option Value → ab_St → Prop} : Ev d 74 39 [some (.ref x), l1, l2, l3, l4] [] σ Q = Ev d 74 40 [some (.ref x), l1, l2, l3, l4] [.ref x] σ Q := ev_A1 d74_39 rfl
theorem d74_40 : decode (ab_C 74) 40 = .ok (.getfield 31, 3) := by decide +kernel
theorem e74_40 {d : Nat} {l0 l1 l2 l3 l4 : Option Value} {s0 : Nat} {σ : ab_St} {Q : Option Value → ab_St → Prop} : Ev d 74 40 [l0, l1, l2, l3, l4] [.ref s0] σ Q = (ab_k s0 = 6 ∧ Ev d 74 43 [l0, l1, l2, l3, l4] [.ref (ab_r s0 5)] σ Q) := ev_Hc (c := ab_k s0 = 6) d74_40 rfl rfl rfl rfl rfl rfl rfl rfl
theorem d74_43 : decode (ab_C 74) 43 = .ok (.iload_n 2, 1) := by decide +kernel
theorem e74_43 {d : Nat} {l0 l1 l3 l4 : Option Value} {x : Int32} {s0 : Nat} {σ : ab_St} {Q : Option Value → ab_St → Prop} : Ev d 74 43 [l0, l1, some (.int x), l3, l4] [.ref s0] σ Q = Ev d 74 44 [l0, l1, some (.int x), l3, l4] [.int x, .ref s0] σ Q := ev_A1 d74_43 rfl
theorem d74_44 : decode (ab_C 74) 44 = .ok (.iconst 1, 1) := by decide +kernel
theorem e74_44 {d : Nat} {l0 l1 l2 l3 l4 : Option Value} {s0 : Int32} {s1 : Nat} {σ : ab_St} {Q : Option Value → ab_St → Prop} : Ev d 74 44 [l0, l1, l2, l3, l4] [.int s0, .ref s1] σ Q = Ev d 74 45 [l0, l1, l2, l3, l4] [.int 1, .int s0, .ref s1] σ Q := ev_A1 d74_44 rfl
theorem d74_45 : decode (ab_C 74) 45 = .ok (.iload 4, 2) := by decide +kernel
theorem e74_45 {d : Nat} {l0 l1 l2 l3 : Option Value} {x : Int32} {s0 : Int32} {s1 : Int32} {s2 : Nat} {σ : ab_St} {Q : Option Value → ab_St → Prop} : Ev d 74 45 [l0, l1, l2, l3, some (.int x)] [.int s0, .int s1, .ref s2] σ Q = Ev d 74 47 [l0, l1, l2, l3, some (.int x)] [.int x, .int s0, .int s1, .ref s2] σ Q := ev_A1 d74_45 rfl
theorem d74_47 : decode (ab_C 74) 47 = .ok (.ishl, 1) := by decide +kernel
theorem e74_47 {d : Nat} {l0 l1 l2 l3 l4 : Option Value} {s0 : Int32} {s1 : Int32} {s2 : Int32} {s3 : Nat} {σ : ab_St} {Q : Option Value → ab_St → Prop} : Ev d 74 47 [l0, l1, l2, l3, l4] [.int s0, .int s1, .int s2, .ref s3] σ Q = Ev d 74 48 [l0, l1, l2, l3, l4] [.int (s1 <<< (s0 &&& 31)), .int s2, .ref s3] σ Q := ev_A2 d74_47 rfl rfl
theorem d74_48 : decode (ab_C 74) 48 = .ok (.ior, 1) := by decide +kernel
theorem e74_48 {d : Nat} {l0 l1 l2 l3 l4 : Option Value} {s0 : Int32} {s1 : Int32} {s2 : Nat} {σ : ab_St} {Q : Option Value → ab_St → Prop} : Ev d 74 48 [l0, l1, l2, l3, l4] [.int s0, .int s1, .ref s2] σ Q = Ev d 74 49 [l0, l1, l2, l3, l4] [.int (s1 ||| s0), .ref s2] σ Q := ev_A2 d74_48 rfl rfl
theorem d74_49 : decode (ab_C 74) 49 = .ok (.iaload, 1) := by decide +kernel
theorem e74_49 {d : Nat} {l0 l1 l2 l3 l4 : Option Value} {s0 : Int32} {s1 : Nat} {σ : ab_St} {Q : Option Value → ab_St → Prop} : Ev d 74 49 [l0, l1, l2, l3, l4] [.int s0, .ref s1] σ Q = ((ab_k s1 = 100 ∧ ab_in s0 (ab_n s1)) ∧ Ev d 74 50 [l0, l1, l2, l3, l4] [.int (σ.1 s1 s0.toNatClampNeg)] σ Q) := ev_Hc (c := ab_k s1 = 100 ∧ ab_in s0 (ab_n s1)) d74_49 rfl rfl rfl rfl rfl rfl rfl rfl
theorem d74_50 : decode (ab_C 74) 50 = .ok (.iload 4, 2) := by decide +kernel
theorem e74_50 {d : Nat} {l0 l1 l2 l3 : Option Value} {x : Int32} {s0 : Int32} {σ : ab_St} {Q : Option Value → ab_St → Prop} : Ev d 74 50 [l0, l1, l2, l3, some (.int x)] [.int s0] σ Q = Ev d 74 52 [l0, l1, l2, l3, some (.int x)] [.int x, .int s0] σ Q := ev_A1 d74_50 rfl
theorem d74_52 : decode (ab_C 74) 52 = .ok (.invokestatic 64, 3) := by decide +kernel
theorem e74_52 {d : Nat} {l0 l1 l2 l3 l4 : Option Value} {s0 : Int32} {s1 : Int32} {σ : ab_St} {Q : Option Value → ab_St → Prop} : Ev (d + 1) 74 52 [l0, l1, l2, l3, l4] [.int s0, .int s1] σ Q = Ev d 32 0 [some (.int s1), some (.int s0)] [] σ (fun r σ2 => Ev (d + 1) 74 55 [l0, l1, l2, l3, l4] (r.toList ++ []) σ2 Q) := ev_K0 (y := 32) (ls := [l0, l1, l2, l3, l4]) (st := [.int s0, .int s1]) (as := [.int s1, .int s0]) (rest := []) d74_52 rfl rfl rfl rfl rfl rfl rfl rfl
theorem d74_55 : decode (ab_C 74) 55 = .ok (.ifCond .eq 6, 3) := by decide +kernel
theorem e74_55 {d : Nat} {l0 l1 l2 l3 l4 : Option Value} {s0 : Int32} {σ : ab_St} {Q : Option Value → ab_St → Prop} : Ev d 74 55 [l0, l1, l2, l3, l4] [.int s0] σ Q = if s0 = 0 then Ev d 74 61 [l0, l1, l2, l3, l4] [] σ Q else Ev d 74 58 [l0, l1, l2, l3, l4] [] σ Q := ev_B (c := s0 = 0) d74_55 rfl rfl rfl rfl rfl
theorem d74_58 : decode (ab_C 74) 58 = .ok (.iload 4, 2) := by decide +kernel
theorem e74_58 {d : Nat} {l0 l1 l2 l3 : Option Value} {x : Int32} {σ : ab_St} {Q : Option Value → ab_St → Prop} : Ev d 74 58 [l0, l1, l2, l3, some (.int x)] [] σ Q = Ev d 74 60 [l0, l1, l2, l3, some (.int x)] [.int x] σ Q := ev_A1 d74_58 rfl
theorem d74_60 : decode (ab_C 74) 60 = .ok (.ireturn, 1) := by decide +kernel
theorem e74_60 {d : Nat} {l0 l1 l2 l3 l4 : Option Value} {s0 : Int32} {σ : ab_St} {Q : Option Value → ab_St → Prop} : Ev d 74 60 [l0, l1, l2, l3, l4] [.int s0] σ Q = Q (some (.int s0)) σ := ev_E d74_60 rfl rfl rfl rfl rfl rfl rfl
theorem d74_61 : decode (ab_C 74) 61 = .ok (.iinc 4 1, 3) := by decide +kernel
theorem e74_61 {d : Nat} {l0 l1 l2 l3 : Option Value} {x : Int32} {σ : ab_St} {Q : Option Value → ab_St → Prop} : Ev d 74 61 [l0, l1, l2, l3, some (.int x)] [] σ Q = Ev d 74 64 [l0, l1, l2, l3, some (.int (x + 1))] [] σ Q := ev_S d74_61 rfl rfl rfl rfl
theorem d74_64 : decode (ab_C 74) 64 = .ok (.goto (-61), 3) := by decide +kernel
theorem e74_64 {d : Nat} {l0 l1 l2 l3 l4 : Option Value} {σ : ab_St} {Q : Option Value → ab_St → Prop} : Ev d 74 64 [l0, l1, l2, l3, l4] [] σ Q = Ev d 74 3 [l0, l1, l2, l3, l4] [] σ Q := ev_J d74_64 rfl rfl rfl rfl rfl
theorem d74_67 : decode (ab_C 74) 67 = .ok (.bipush (-9), 2) := by decide +kernel
theorem e74_67 {d : Nat} {l0 l1 l2 l3 l4 : Option Value} {σ : ab_St} {Q : Option Value → ab_St → Prop} : Ev d 74 67 [l0, l1, l2, l3, l4] [] σ Q = Ev d 74 69 [l0, l1, l2, l3, l4] [.int (-9)] σ Q := ev_A1 d74_67 rfl
theorem d74_69 : decode (ab_C 74) 69 = .ok (.ireturn, 1) := by decide +kernel
theorem e74_69 {d : Nat} {l0 l1 l2 l3 l4 : Option Value} {s0 : Int32} {σ : ab_St} {Q : Option Value → ab_St → Prop} : Ev d 74 69 [l0, l1, l2, l3, l4] [.int s0] σ Q = Q (some (.int s0)) σ := ev_E d74_69 rfl rfl rfl rfl rfl rfl rfl
/-! SaidLeast.soon(I)I -/
theorem d75_0 : decode (ab_C 75) 0 = .ok (.aload_n 0, 1) := by decide +kernel
theorem e75_0 {d : Nat} {l1 : Option Value} {x : Nat} {σ : ab_St} {Q : Option Value → ab_St → Prop} : Ev d 75 0 [some (.ref x), l1] [] σ Q = Ev d 75 1 [some (.ref x), l1] [.ref x] σ Q := ev_A1 d75_0 rfl
theorem d75_1 : decode (ab_C 75) 1 = .ok (.getfield 26, 3) := by decide +kernel
theorem e75_1 {d : Nat} {l0 l1 : Option Value} {s0 : Nat} {σ : ab_St} {Q : Option Value → ab_St → Prop} : Ev d 75 1 [l0, l1] [.ref s0] σ Q = (ab_k s0 = 0 ∧ Ev d 75 4 [l0, l1] [.ref (ab_r s0 2)] σ Q) := ev_Hc (c := ab_k s0 = 0) d75_1 rfl rfl rfl rfl rfl rfl rfl rfl
theorem d75_4 : decode (ab_C 75) 4 = .ok (.iload_n 1, 1) := by decide +kernel
theorem e75_4 {d : Nat} {l0 : Option Value} {x : Int32} {s0 : Nat} {σ : ab_St} {Q : Option Value → ab_St → Prop} : Ev d 75 4 [l0, some (.int x)] [.ref s0] σ Q = Ev d 75 5 [l0, some (.int x)] [.int x, .ref s0] σ Q := ev_A1 d75_4 rfl
theorem d75_5 : decode (ab_C 75) 5 = .ok (.invokevirtual 148, 3) := by decide +kernel
theorem e75_5 {d : Nat} {l0 l1 : Option Value} {s0 : Int32} {s1 : Nat} {σ : ab_St} {Q : Option Value → ab_St → Prop} : Ev (d + 1) 75 5 [l0, l1] [.int s0, .ref s1] σ Q = (ab_k s1 = 3 ∧ Ev d 31 0 [some (.ref s1), some (.int s0)] [] σ (fun r σ2 => Ev (d + 1) 75 8 [l0, l1] (r.toList ++ []) σ2 Q)) := ev_KV (b := s1) (ls := [l0, l1]) (st := [.int s0, .ref s1]) (as := [.int s0]) (rest := []) d75_5 rfl rfl rfl (Nat.le_of_ble_eq_true rfl) (Nat.le_of_ble_eq_true rfl) (Nat.le_of_ble_eq_true rfl) rfl rfl rfl rfl rfl rfl rfl
theorem d75_8 : decode (ab_C 75) 8 = .ok (.ifCond .ne 5, 3) := by decide +kernel
theorem e75_8 {d : Nat} {l0 l1 : Option Value} {s0 : Int32} {σ : ab_St} {Q : Option Value → ab_St → Prop} : Ev d 75 8 [l0, l1] [.int s0] σ Q = if s0 = 0 then Ev d 75 11 [l0, l1] [] σ Q else Ev d 75 13 [l0, l1] [] σ Q := ev_B (c := s0 = 0) d75_8 rfl rfl rfl rfl rfl
theorem d75_11 : decode (ab_C 75) 11 = .ok (.iconst (-1), 1) := by decide +kernel
theorem e75_11 {d : Nat} {l0 l1 : Option Value} {σ : ab_St} {Q : Option Value → ab_St → Prop} : Ev d 75 11 [l0, l1] [] σ Q = Ev d 75 12 [l0, l1] [.int (-1)] σ Q := ev_A1 d75_11 rfl
theorem d75_12 : decode (ab_C 75) 12 = .ok (.ireturn, 1) := by decide +kernel
theorem e75_12 {d : Nat} {l0 l1 : Option Value} {s0 : Int32} {σ : ab_St} {Q : Option Value → ab_St → Prop} : Ev d 75 12 [l0, l1] [.int s0] σ Q = Q (some (.int s0)) σ := ev_E d75_12 rfl rfl rfl rfl rfl rfl rfl
theorem d75_13 : decode (ab_C 75) 13 = .ok (.aload_n 0, 1) := by decide +kernel
theorem e75_13 {d : Nat} {l1 : Option Value} {x : Nat} {σ : ab_St} {Q : Option Value → ab_St → Prop} : Ev d 75 13 [some (.ref x), l1] [] σ Q = Ev d 75 14 [some (.ref x), l1] [.ref x] σ Q := ev_A1 d75_13 rfl
theorem d75_14 : decode (ab_C 75) 14 = .ok (.getfield 54, 3) := by decide +kernel
theorem e75_14 {d : Nat} {l0 l1 : Option Value} {s0 : Nat} {σ : ab_St} {Q : Option Value → ab_St → Prop} : Ev d 75 14 [l0, l1] [.ref s0] σ Q = (ab_k s0 = 0 ∧ Ev d 75 17 [l0, l1] [.ref (ab_r s0 7)] σ Q) := ev_Hc (c := ab_k s0 = 0) d75_14 rfl rfl rfl rfl rfl rfl rfl rfl
theorem d75_17 : decode (ab_C 75) 17 = .ok (.aload_n 0, 1) := by decide +kernel
theorem e75_17 {d : Nat} {l1 : Option Value} {x : Nat} {s0 : Nat} {σ : ab_St} {Q : Option Value → ab_St → Prop} : Ev d 75 17 [some (.ref x), l1] [.ref s0] σ Q = Ev d 75 18 [some (.ref x), l1] [.ref x, .ref s0] σ Q := ev_A1 d75_17 rfl
theorem d75_18 : decode (ab_C 75) 18 = .ok (.getfield 26, 3) := by decide +kernel
theorem e75_18 {d : Nat} {l0 l1 : Option Value} {s0 : Nat} {s1 : Nat} {σ : ab_St} {Q : Option Value → ab_St → Prop} : Ev d 75 18 [l0, l1] [.ref s0, .ref s1] σ Q = (ab_k s0 = 0 ∧ Ev d 75 21 [l0, l1] [.ref (ab_r s0 2), .ref s1] σ Q) := ev_Hc (c := ab_k s0 = 0) d75_18 rfl rfl rfl rfl rfl rfl rfl rfl
theorem d75_21 : decode (ab_C 75) 21 = .ok (.aload_n 0, 1) := by decide +kernel
theorem e75_21 {d : Nat} {l1 : Option Value} {x : Nat} {s0 : Nat} {s1 : Nat} {σ : ab_St} {Q : Option Value → ab_St → Prop} : Ev d 75 21 [some (.ref x), l1] [.ref s0, .ref s1] σ Q = Ev d 75 22 [some (.ref x), l1] [.ref x, .ref s0, .ref s1] σ Q := ev_A1 d75_21 rfl
theorem d75_22 : decode (ab_C 75) 22 = .ok (.getfield 33, 3) := by decide +kernel
theorem e75_22 {d : Nat} {l0 l1 : Option Value} {s0 : Nat} {s1 : Nat} {s2 : Nat} {σ : ab_St} {Q : Option Value → ab_St → Prop} : Ev d 75 22 [l0, l1] [.ref s0, .ref s1, .ref s2] σ Q = (ab_k s0 = 0 ∧ Ev d 75 25 [l0, l1] [.ref (ab_r s0 3), .ref s1, .ref s2] σ Q) := ev_Hc (c := ab_k s0 = 0) d75_22 rfl rfl rfl rfl rfl rfl rfl rfl
theorem d75_25 : decode (ab_C 75) 25 = .ok (.iload_n 1, 1) := by decide +kernel
theorem e75_25 {d : Nat} {l0 : Option Value} {x : Int32} {s0 : Nat} {s1 : Nat} {s2 : Nat} {σ : ab_St} {Q : Option Value → ab_St → Prop} : Ev d 75 25 [l0, some (.int x)] [.ref s0, .ref s1, .ref s2] σ Q = Ev d 75 26 [l0, some (.int x)] [.int x, .ref s0, .ref s1, .ref s2] σ Q := ev_A1 d75_25 rfl
theorem d75_26 : decode (ab_C 75) 26 = .ok (.invokevirtual 193, 3) := by decide +kernel
theorem e75_26 {d : Nat} {l0 l1 : Option Value} {s0 : Int32} {s1 : Nat} {s2 : Nat} {s3 : Nat} {σ : ab_St} {Q : Option Value → ab_St → Prop} : Ev (d + 1) 75 26 [l0, l1] [.int s0, .ref s1, .ref s2, .ref s3] σ Q = (ab_k s3 = 6 ∧ Ev d 76 0 [some (.ref s3), some (.ref s2), some (.ref s1), some (.int s0), none, none] [] σ (fun r σ2 => Ev (d + 1) 75 29 [l0, l1] (r.toList ++ []) σ2 Q)) := ev_KV (b := s3) (ls := [l0, l1]) (st := [.int s0, .ref s1, .ref s2, .ref s3]) (as := [.ref s2, .ref s1, .int s0]) (rest := []) d75_26 rfl rfl rfl (Nat.le_of_ble_eq_true rfl) (Nat.le_of_ble_eq_true rfl) (Nat.le_of_ble_eq_true rfl) rfl rfl rfl rfl rfl rfl rfl
theorem d75_29 : decode (ab_C 75) 29 = .ok (.ireturn, 1) := by decide +kernel
theorem e75_29 {d : Nat} {l0 l1 : Option Value} {s0 : Int32} {σ : ab_St} {Q : Option Value → ab_St → Prop} : Ev d 75 29 [l0, l1] [.int s0] σ Q = Q (some (.int s0)) σ := ev_E d75_29 rfl rfl rfl rfl rfl rfl rfl
/-! SaidLeast$Orders.fewestWordsAhead(LSaidLeast$Told;LSaidLeast$State;I)I -/
theorem d76_0 : decode (ab_C 76) 0 = .ok (.aload_n 0, 1) := by decide +kernel
theorem e76_0 {d : Nat} {l1 l2 l3 l4 l5 : Option Value} {x : Nat} {σ : ab_St} {Q : Option Value → ab_St → Prop} : Ev d 76 0 [some (.ref x), l1, l2, l3, l4, l5] [] σ Q = Ev d 76 1 [some (.ref x), l1, l2, l3, l4, l5] [.ref x] σ Q := ev_A1 d76_0 rfl
theorem d76_1 : decode (ab_C 76) 1 = .ok (.aload_n 1, 1) := by decide +kernel
theorem e76_1 {d : Nat} {l0 l2 l3 l4 l5 : Option Value} {x : Nat} {s0 : Nat} {σ : ab_St} {Q : Option Value → ab_St → Prop} : Ev d 76 1 [l0, some (.ref x), l2, l3, l4, l5] [.ref s0] σ Q = Ev d 76 2 [l0, some (.ref x), l2, l3, l4, l5] [.ref x, .ref s0] σ Q := ev_A1 d76_1 rfl
theorem d76_2 : decode (ab_C 76) 2 = .ok (.aload_n 2, 1) := by decide +kernel
theorem e76_2 {d : Nat} {l0 l1 l3 l4 l5 : Option Value} {x : Nat} {s0 : Nat} {s1 : Nat} {σ : ab_St} {Q : Option Value → ab_St → Prop} : Ev d 76 2 [l0, l1, some (.ref x), l3, l4, l5] [.ref s0, .ref s1] σ Q = Ev d 76 3 [l0, l1, some (.ref x), l3, l4, l5] [.ref x, .ref s0, .ref s1] σ Q := ev_A1 d76_2 rfl
theorem d76_3 : decode (ab_C 76) 3 = .ok (.invokevirtual 34, 3) := by decide +kernel
theorem e76_3 {d : Nat} {l0 l1 l2 l3 l4 l5 : Option Value} {s0 : Nat} {s1 : Nat} {s2 : Nat} {σ : ab_St} {Q : Option Value → ab_St → Prop} : Ev (d + 1) 76 3 [l0, l1, l2, l3, l4, l5] [.ref s0, .ref s1, .ref s2] σ Q = (ab_k s2 = 6 ∧ Ev d 63 0 [some (.ref s2), some (.ref s1), some (.ref s0), none] [] σ (fun r σ2 => Ev (d + 1) 76 6 [l0, l1, l2, l3, l4, l5] (r.toList ++ []) σ2 Q)) := ev_KV (b := s2) (ls := [l0, l1, l2, l3, l4, l5]) (st := [.ref s0, .ref s1, .ref s2]) (as := [.ref s1, .ref s0]) (rest := []) d76_3 rfl rfl rfl (Nat.le_of_ble_eq_true rfl) (Nat.le_of_ble_eq_true rfl) (Nat.le_of_ble_eq_true rfl) rfl rfl rfl rfl rfl rfl rfl
theorem d76_6 : decode (ab_C 76) 6 = .ok (.bipush (-9), 2) := by decide +kernel
theorem e76_6 {d : Nat} {l0 l1 l2 l3 l4 l5 : Option Value} {σ : ab_St} {Q : Option Value → ab_St → Prop} : Ev d 76 6 [l0, l1, l2, l3, l4, l5] [] σ Q = Ev d 76 8 [l0, l1, l2, l3, l4, l5] [.int (-9)] σ Q := ev_A1 d76_6 rfl
theorem d76_8 : decode (ab_C 76) 8 = .ok (.istore 4, 2) := by decide +kernel
theorem e76_8 {d : Nat} {l0 l1 l2 l3 l4 l5 : Option Value} {s0 : Int32} {σ : ab_St} {Q : Option Value → ab_St → Prop} : Ev d 76 8 [l0, l1, l2, l3, l4, l5] [.int s0] σ Q = Ev d 76 10 [l0, l1, l2, l3, some (.int s0), l5] [] σ Q := ev_S d76_8 rfl rfl rfl rfl
theorem d76_10 : decode (ab_C 76) 10 = .ok (.aload_n 2, 1) := by decide +kernel
theorem e76_10 {d : Nat} {l0 l1 l3 l4 l5 : Option Value} {x : Nat} {σ : ab_St} {Q : Option Value → ab_St → Prop} : Ev d 76 10 [l0, l1, some (.ref x), l3, l4, l5] [] σ Q = Ev d 76 11 [l0, l1, some (.ref x), l3, l4, l5] [.ref x] σ Q := ev_A1 d76_10 rfl
theorem d76_11 : decode (ab_C 76) 11 = .ok (.getfield 46, 3) := by decide +kernel
theorem e76_11 {d : Nat} {l0 l1 l2 l3 l4 l5 : Option Value} {s0 : Nat} {σ : ab_St} {Q : Option Value → ab_St → Prop} : Ev d 76 11 [l0, l1, l2, l3, l4, l5] [.ref s0] σ Q = (ab_k s0 = 4 ∧ Ev d 76 14 [l0, l1, l2, l3, l4, l5] [.int (σ.1 s0 2)] σ Q) := ev_Hc (c := ab_k s0 = 4) d76_11 rfl rfl rfl rfl rfl rfl rfl rfl
theorem d76_14 : decode (ab_C 76) 14 = .ok (.istore 5, 2) := by decide +kernel
theorem e76_14 {d : Nat} {l0 l1 l2 l3 l4 l5 : Option Value} {s0 : Int32} {σ : ab_St} {Q : Option Value → ab_St → Prop} : Ev d 76 14 [l0, l1, l2, l3, l4, l5] [.int s0] σ Q = Ev d 76 16 [l0, l1, l2, l3, l4, some (.int s0)] [] σ Q := ev_S d76_14 rfl rfl rfl rfl
theorem d76_16 : decode (ab_C 76) 16 = .ok (.iload 5, 2) := by decide +kernel
theorem e76_16 {d : Nat} {l0 l1 l2 l3 l4 : Option Value} {x : Int32} {σ : ab_St} {Q : Option Value → ab_St → Prop} : Ev d 76 16 [l0, l1, l2, l3, l4, some (.int x)] [] σ Q = Ev d 76 18 [l0, l1, l2, l3, l4, some (.int x)] [.int x] σ Q := ev_A1 d76_16 rfl
theorem d76_18 : decode (ab_C 76) 18 = .ok (.iconst 1, 1) := by decide +kernel
theorem e76_18 {d : Nat} {l0 l1 l2 l3 l4 l5 : Option Value} {s0 : Int32} {σ : ab_St} {Q : Option Value → ab_St → Prop} : Ev d 76 18 [l0, l1, l2, l3, l4, l5] [.int s0] σ Q = Ev d 76 19 [l0, l1, l2, l3, l4, l5] [.int 1, .int s0] σ Q := ev_A1 d76_18 rfl
theorem d76_19 : decode (ab_C 76) 19 = .ok (.aload_n 1, 1) := by decide +kernel
theorem e76_19 {d : Nat} {l0 l2 l3 l4 l5 : Option Value} {x : Nat} {s0 : Int32} {s1 : Int32} {σ : ab_St} {Q : Option Value → ab_St → Prop} : Ev d 76 19 [l0, some (.ref x), l2, l3, l4, l5] [.int s0, .int s1] σ Q = Ev d 76 20 [l0, some (.ref x), l2, l3, l4, l5] [.ref x, .int s0, .int s1] σ Q := ev_A1 d76_19 rfl
theorem d76_20 : decode (ab_C 76) 20 = .ok (.getfield 59, 3) := by decide +kernel
theorem e76_20 {d : Nat} {l0 l1 l2 l3 l4 l5 : Option Value} {s0 : Nat} {s1 : Int32} {s2 : Int32} {σ : ab_St} {Q : Option Value → ab_St → Prop} : Ev d 76 20 [l0, l1, l2, l3, l4, l5] [.ref s0, .int s1, .int s2] σ Q = (ab_k s0 = 3 ∧ Ev d 76 23 [l0, l1, l2, l3, l4, l5] [.int (σ.1 s0 5), .int s1, .int s2] σ Q) := ev_Hc (c := ab_k s0 = 3) d76_20 rfl rfl rfl rfl rfl rfl rfl rfl
theorem d76_23 : decode (ab_C 76) 23 = .ok (.ishl, 1) := by decide +kernel
theorem e76_23 {d : Nat} {l0 l1 l2 l3 l4 l5 : Option Value} {s0 : Int32} {s1 : Int32} {s2 : Int32} {σ : ab_St} {Q : Option Value → ab_St → Prop} : Ev d 76 23 [l0, l1, l2, l3, l4, l5] [.int s0, .int s1, .int s2] σ Q = Ev d 76 24 [l0, l1, l2, l3, l4, l5] [.int (s1 <<< (s0 &&& 31)), .int s2] σ Q := ev_A2 d76_23 rfl rfl
theorem d76_24 : decode (ab_C 76) 24 = .ok (.if_icmp .ge 61, 3) := by decide +kernel
theorem e76_24 {d : Nat} {l0 l1 l2 l3 l4 l5 : Option Value} {s0 : Int32} {s1 : Int32} {σ : ab_St} {Q : Option Value → ab_St → Prop} : Ev d 76 24 [l0, l1, l2, l3, l4, l5] [.int s0, .int s1] σ Q = if s0 ≤ s1 then Ev d 76 85 [l0, l1, l2, l3, l4, l5] [] σ Q else Ev d 76 27 [l0, l1, l2, l3, l4, l5] [] σ Q := ev_B (c := s0 ≤ s1) d76_24 rfl rfl rfl rfl rfl
theorem d76_27 : decode (ab_C 76) 27 = .ok (.aload_n 0, 1) := by decide +kernel
theorem e76_27 {d : Nat} {l1 l2 l3 l4 l5 : Option Value} {x : Nat} {σ : ab_St} {Q : Option Value → ab_St → Prop} : Ev d 76 27 [some (.ref x), l1, l2, l3, l4, l5] [] σ Q = Ev d 76 28 [some (.ref x), l1, l2, l3, l4, l5] [.ref x] σ Q := ev_A1 d76_27 rfl
theorem d76_28 : decode (ab_C 76) 28 = .ok (.getfield 18, 3) := by decide +kernel
theorem e76_28 {d : Nat} {l0 l1 l2 l3 l4 l5 : Option Value} {s0 : Nat} {σ : ab_St} {Q : Option Value → ab_St → Prop} : Ev d 76 28 [l0, l1, l2, l3, l4, l5] [.ref s0] σ Q = (ab_k s0 = 6 ∧ Ev d 76 31 [l0, l1, l2, l3, l4, l5] [.ref (ab_r s0 1)] σ Q) := ev_Hc (c := ab_k s0 = 6) d76_28 rfl rfl rfl rfl rfl rfl rfl rfl
theorem d76_31 : decode (ab_C 76) 31 = .ok (.iload 5, 2) := by decide +kernel
theorem e76_31 {d : Nat} {l0 l1 l2 l3 l4 : Option Value} {x : Int32} {s0 : Nat} {σ : ab_St} {Q : Option Value → ab_St → Prop} : Ev d 76 31 [l0, l1, l2, l3, l4, some (.int x)] [.ref s0] σ Q = Ev d 76 33 [l0, l1, l2, l3, l4, some (.int x)] [.int x, .ref s0] σ Q := ev_A1 d76_31 rfl
theorem d76_33 : decode (ab_C 76) 33 = .ok (.iaload, 1) := by decide +kernel
theorem e76_33 {d : Nat} {l0 l1 l2 l3 l4 l5 : Option Value} {s0 : Int32} {s1 : Nat} {σ : ab_St} {Q : Option Value → ab_St → Prop} : Ev d 76 33 [l0, l1, l2, l3, l4, l5] [.int s0, .ref s1] σ Q = ((ab_k s1 = 100 ∧ ab_in s0 (ab_n s1)) ∧ Ev d 76 34 [l0, l1, l2, l3, l4, l5] [.int (σ.1 s1 s0.toNatClampNeg)] σ Q) := ev_Hc (c := ab_k s1 = 100 ∧ ab_in s0 (ab_n s1)) d76_33 rfl rfl rfl rfl rfl rfl rfl rfl
theorem d76_34 : decode (ab_C 76) 34 = .ok (.ifCond .eq 45, 3) := by decide +kernel
theorem e76_34 {d : Nat} {l0 l1 l2 l3 l4 l5 : Option Value} {s0 : Int32} {σ : ab_St} {Q : Option Value → ab_St → Prop} : Ev d 76 34 [l0, l1, l2, l3, l4, l5] [.int s0] σ Q = if s0 = 0 then Ev d 76 79 [l0, l1, l2, l3, l4, l5] [] σ Q else Ev d 76 37 [l0, l1, l2, l3, l4, l5] [] σ Q := ev_B (c := s0 = 0) d76_34 rfl rfl rfl rfl rfl
theorem d76_37 : decode (ab_C 76) 37 = .ok (.aload_n 0, 1) := by decide +kernel
theorem e76_37 {d : Nat} {l1 l2 l3 l4 l5 : Option Value} {x : Nat} {σ : ab_St} {Q : Option Value → ab_St → Prop} : Ev d 76 37 [some (.ref x), l1, l2, l3, l4, l5] [] σ Q = Ev d 76 38 [some (.ref x), l1, l2, l3, l4, l5] [.ref x] σ Q := ev_A1 d76_37 rfl
theorem d76_38 : decode (ab_C 76) 38 = .ok (.getfield 22, 3) := by decide +kernel
theorem e76_38 {d : Nat} {l0 l1 l2 l3 l4 l5 : Option Value} {s0 : Nat} {σ : ab_St} {Q : Option Value → ab_St → Prop} : Ev d 76 38 [l0, l1, l2, l3, l4, l5] [.ref s0] σ Q = (ab_k s0 = 6 ∧ Ev d 76 41 [l0, l1, l2, l3, l4, l5] [.ref (ab_r s0 2)] σ Q) := ev_Hc (c := ab_k s0 = 6) d76_38 rfl rfl rfl rfl rfl rfl rfl rfl
theorem d76_41 : decode (ab_C 76) 41 = .ok (.iload 5, 2) := by decide +kernel
theorem e76_41 {d : Nat} {l0 l1 l2 l3 l4 : Option Value} {x : Int32} {s0 : Nat} {σ : ab_St} {Q : Option Value → ab_St → Prop} : Ev d 76 41 [l0, l1, l2, l3, l4, some (.int x)] [.ref s0] σ Q = Ev d 76 43 [l0, l1, l2, l3, l4, some (.int x)] [.int x, .ref s0] σ Q := ev_A1 d76_41 rfl
theorem d76_43 : decode (ab_C 76) 43 = .ok (.iaload, 1) := by decide +kernel
theorem e76_43 {d : Nat} {l0 l1 l2 l3 l4 l5 : Option Value} {s0 : Int32} {s1 : Nat} {σ : ab_St} {Q : Option Value → ab_St → Prop} : Ev d 76 43 [l0, l1, l2, l3, l4, l5] [.int s0, .ref s1] σ Q = ((ab_k s1 = 100 ∧ ab_in s0 (ab_n s1)) ∧ Ev d 76 44 [l0, l1, l2, l3, l4, l5] [.int (σ.1 s1 s0.toNatClampNeg)] σ Q) := ev_Hc (c := ab_k s1 = 100 ∧ ab_in s0 (ab_n s1)) d76_43 rfl rfl rfl rfl rfl rfl rfl rfl
theorem d76_44 : decode (ab_C 76) 44 = .ok (.iload_n 3, 1) := by decide +kernel
theorem e76_44 {d : Nat} {l0 l1 l2 l4 l5 : Option Value} {x : Int32} {s0 : Int32} {σ : ab_St} {Q : Option Value → ab_St → Prop} : Ev d 76 44 [l0, l1, l2, some (.int x), l4, l5] [.int s0] σ Q = Ev d 76 45 [l0, l1, l2, some (.int x), l4, l5] [.int x, .int s0] σ Q := ev_A1 d76_44 rfl
theorem d76_45 : decode (ab_C 76) 45 = .ok (.invokestatic 64, 3) := by decide +kernel
theorem e76_45 {d : Nat} {l0 l1 l2 l3 l4 l5 : Option Value} {s0 : Int32} {s1 : Int32} {σ : ab_St} {Q : Option Value → ab_St → Prop} : Ev (d + 1) 76 45 [l0, l1, l2, l3, l4, l5] [.int s0, .int s1] σ Q = Ev d 32 0 [some (.int s1), some (.int s0)] [] σ (fun r σ2 => Ev (d + 1) 76 48 [l0, l1, l2, l3, l4, l5] (r.toList ++ []) σ2 Q) := ev_K0 (y := 32) (ls := [l0, l1, l2, l3, l4, l5]) (st := [.int s0, .int s1]) (as := [.int s1, .int s0]) (rest := []) d76_45 rfl rfl rfl rfl rfl rfl rfl rfl
theorem d76_48 : decode (ab_C 76) 48 = .ok (.ifCond .eq 31, 3) := by decide +kernel
theorem e76_48 {d : Nat} {l0 l1 l2 l3 l4 l5 : Option Value} {s0 : Int32} {σ : ab_St} {Q : Option Value → ab_St → Prop} : Ev d 76 48 [l0, l1, l2, l3, l4, l5] [.int s0] σ Q = if s0 = 0 then Ev d 76 79 [l0, l1, l2, l3, l4, l5] [] σ Q else Ev d 76 51 [l0, l1, l2, l3, l4, l5] [] σ Q := ev_B (c := s0 = 0) d76_48 rfl rfl rfl rfl rfl
theorem d76_51 : decode (ab_C 76) 51 = .ok (.iload 4, 2) := by decide +kernel
theorem e76_51 {d : Nat} {l0 l1 l2 l3 l5 : Option Value} {x : Int32} {σ : ab_St} {Q : Option Value → ab_St → Prop} : Ev d 76 51 [l0, l1, l2, l3, some (.int x), l5] [] σ Q = Ev d 76 53 [l0, l1, l2, l3, some (.int x), l5] [.int x] σ Q := ev_A1 d76_51 rfl
theorem d76_53 : decode (ab_C 76) 53 = .ok (.bipush (-9), 2) := by decide +kernel
theorem e76_53 {d : Nat} {l0 l1 l2 l3 l4 l5 : Option Value} {s0 : Int32} {σ : ab_St} {Q : Option Value → ab_St → Prop} : Ev d 76 53 [l0, l1, l2, l3, l4, l5] [.int s0] σ Q = Ev d 76 55 [l0, l1, l2, l3, l4, l5] [.int (-9), .int s0] σ Q := ev_A1 d76_53 rfl
theorem d76_55 : decode (ab_C 76) 55 = .ok (.if_icmp .eq 15, 3) := by decide +kernel
theorem e76_55 {d : Nat} {l0 l1 l2 l3 l4 l5 : Option Value} {s0 : Int32} {s1 : Int32} {σ : ab_St} {Q : Option Value → ab_St → Prop} : Ev d 76 55 [l0, l1, l2, l3, l4, l5] [.int s0, .int s1] σ Q = if s1 = s0 then Ev d 76 70 [l0, l1, l2, l3, l4, l5] [] σ Q else Ev d 76 58 [l0, l1, l2, l3, l4, l5] [] σ Q := ev_B (c := s1 = s0) d76_55 rfl rfl rfl rfl rfl
theorem d76_58 : decode (ab_C 76) 58 = .ok (.aload_n 0, 1) := by decide +kernel
theorem e76_58 {d : Nat} {l1 l2 l3 l4 l5 : Option Value} {x : Nat} {σ : ab_St} {Q : Option Value → ab_St → Prop} : Ev d 76 58 [some (.ref x), l1, l2, l3, l4, l5] [] σ Q = Ev d 76 59 [some (.ref x), l1, l2, l3, l4, l5] [.ref x] σ Q := ev_A1 d76_58 rfl
theorem d76_59 : decode (ab_C 76) 59 = .ok (.getfield 25, 3) := by decide +kernel
theorem e76_59 {d : Nat} {l0 l1 l2 l3 l4 l5 : Option Value} {s0 : Nat} {σ : ab_St} {Q : Option Value → ab_St → Prop} : Ev d 76 59 [l0, l1, l2, l3, l4, l5] [.ref s0] σ Q = (ab_k s0 = 6 ∧ Ev d 76 62 [l0, l1, l2, l3, l4, l5] [.ref (ab_r s0 3)] σ Q) := ev_Hc (c := ab_k s0 = 6) d76_59 rfl rfl rfl rfl rfl rfl rfl rfl
theorem d76_62 : decode (ab_C 76) 62 = .ok (.iload 5, 2) := by decide +kernel
theorem e76_62 {d : Nat} {l0 l1 l2 l3 l4 : Option Value} {x : Int32} {s0 : Nat} {σ : ab_St} {Q : Option Value → ab_St → Prop} : Ev d 76 62 [l0, l1, l2, l3, l4, some (.int x)] [.ref s0] σ Q = Ev d 76 64 [l0, l1, l2, l3, l4, some (.int x)] [.int x, .ref s0] σ Q := ev_A1 d76_62 rfl
theorem d76_64 : decode (ab_C 76) 64 = .ok (.iaload, 1) := by decide +kernel
theorem e76_64 {d : Nat} {l0 l1 l2 l3 l4 l5 : Option Value} {s0 : Int32} {s1 : Nat} {σ : ab_St} {Q : Option Value → ab_St → Prop} : Ev d 76 64 [l0, l1, l2, l3, l4, l5] [.int s0, .ref s1] σ Q = ((ab_k s1 = 100 ∧ ab_in s0 (ab_n s1)) ∧ Ev d 76 65 [l0, l1, l2, l3, l4, l5] [.int (σ.1 s1 s0.toNatClampNeg)] σ Q) := ev_Hc (c := ab_k s1 = 100 ∧ ab_in s0 (ab_n s1)) d76_64 rfl rfl rfl rfl rfl rfl rfl rfl
theorem d76_65 : decode (ab_C 76) 65 = .ok (.iload 4, 2) := by decide +kernel
theorem e76_65 {d : Nat} {l0 l1 l2 l3 l5 : Option Value} {x : Int32} {s0 : Int32} {σ : ab_St} {Q : Option Value → ab_St → Prop} : Ev d 76 65 [l0, l1, l2, l3, some (.int x), l5] [.int s0] σ Q = Ev d 76 67 [l0, l1, l2, l3, some (.int x), l5] [.int x, .int s0] σ Q := ev_A1 d76_65 rfl
theorem d76_67 : decode (ab_C 76) 67 = .ok (.if_icmp .ge 12, 3) := by decide +kernel
theorem e76_67 {d : Nat} {l0 l1 l2 l3 l4 l5 : Option Value} {s0 : Int32} {s1 : Int32} {σ : ab_St} {Q : Option Value → ab_St → Prop} : Ev d 76 67 [l0, l1, l2, l3, l4, l5] [.int s0, .int s1] σ Q = if s0 ≤ s1 then Ev d 76 79 [l0, l1, l2, l3, l4, l5] [] σ Q else Ev d 76 70 [l0, l1, l2, l3, l4, l5] [] σ Q := ev_B (c := s0 ≤ s1) d76_67 rfl rfl rfl rfl rfl
theorem d76_70 : decode (ab_C 76) 70 = .ok (.aload_n 0, 1) := by decide +kernel
theorem e76_70 {d : Nat} {l1 l2 l3 l4 l5 : Option Value} {x : Nat} {σ : ab_St} {Q : Option Value → ab_St → Prop} : Ev d 76 70 [some (.ref x), l1, l2, l3, l4, l5] [] σ Q = Ev d 76 71 [some (.ref x), l1, l2, l3, l4, l5] [.ref x] σ Q := ev_A1 d76_70 rfl
theorem d76_71 : decode (ab_C 76) 71 = .ok (.getfield 25, 3) := by decide +kernel
theorem e76_71 {d : Nat} {l0 l1 l2 l3 l4 l5 : Option Value} {s0 : Nat} {σ : ab_St} {Q : Option Value → ab_St → Prop} : Ev d 76 71 [l0, l1, l2, l3, l4, l5] [.ref s0] σ Q = (ab_k s0 = 6 ∧ Ev d 76 74 [l0, l1, l2, l3, l4, l5] [.ref (ab_r s0 3)] σ Q) := ev_Hc (c := ab_k s0 = 6) d76_71 rfl rfl rfl rfl rfl rfl rfl rfl
theorem d76_74 : decode (ab_C 76) 74 = .ok (.iload 5, 2) := by decide +kernel
theorem e76_74 {d : Nat} {l0 l1 l2 l3 l4 : Option Value} {x : Int32} {s0 : Nat} {σ : ab_St} {Q : Option Value → ab_St → Prop} : Ev d 76 74 [l0, l1, l2, l3, l4, some (.int x)] [.ref s0] σ Q = Ev d 76 76 [l0, l1, l2, l3, l4, some (.int x)] [.int x, .ref s0] σ Q := ev_A1 d76_74 rfl
theorem d76_76 : decode (ab_C 76) 76 = .ok (.iaload, 1) := by decide +kernel
theorem e76_76 {d : Nat} {l0 l1 l2 l3 l4 l5 : Option Value} {s0 : Int32} {s1 : Nat} {σ : ab_St} {Q : Option Value → ab_St → Prop} : Ev d 76 76 [l0, l1, l2, l3, l4, l5] [.int s0, .ref s1] σ Q = ((ab_k s1 = 100 ∧ ab_in s0 (ab_n s1)) ∧ Ev d 76 77 [l0, l1, l2, l3, l4, l5] [.int (σ.1 s1 s0.toNatClampNeg)] σ Q) := ev_Hc (c := ab_k s1 = 100 ∧ ab_in s0 (ab_n s1)) d76_76 rfl rfl rfl rfl rfl rfl rfl rfl
theorem d76_77 : decode (ab_C 76) 77 = .ok (.istore 4, 2) := by decide +kernel
theorem e76_77 {d : Nat} {l0 l1 l2 l3 l4 l5 : Option Value} {s0 : Int32} {σ : ab_St} {Q : Option Value → ab_St → Prop} : Ev d 76 77 [l0, l1, l2, l3, l4, l5] [.int s0] σ Q = Ev d 76 79 [l0, l1, l2, l3, some (.int s0), l5] [] σ Q := ev_S d76_77 rfl rfl rfl rfl
theorem d76_79 : decode (ab_C 76) 79 = .ok (.iinc 5 1, 3) := by decide +kernel
theorem e76_79 {d : Nat} {l0 l1 l2 l3 l4 : Option Value} {x : Int32} {σ : ab_St} {Q : Option Value → ab_St → Prop} : Ev d 76 79 [l0, l1, l2, l3, l4, some (.int x)] [] σ Q = Ev d 76 82 [l0, l1, l2, l3, l4, some (.int (x + 1))] [] σ Q := ev_S d76_79 rfl rfl rfl rfl
theorem d76_82 : decode (ab_C 76) 82 = .ok (.goto (-66), 3) := by decide +kernel
theorem e76_82 {d : Nat} {l0 l1 l2 l3 l4 l5 : Option Value} {σ : ab_St} {Q : Option Value → ab_St → Prop} : Ev d 76 82 [l0, l1, l2, l3, l4, l5] [] σ Q = Ev d 76 16 [l0, l1, l2, l3, l4, l5] [] σ Q := ev_J d76_82 rfl rfl rfl rfl rfl
theorem d76_85 : decode (ab_C 76) 85 = .ok (.iload 4, 2) := by decide +kernel
theorem e76_85 {d : Nat} {l0 l1 l2 l3 l5 : Option Value} {x : Int32} {σ : ab_St} {Q : Option Value → ab_St → Prop} : Ev d 76 85 [l0, l1, l2, l3, some (.int x), l5] [] σ Q = Ev d 76 87 [l0, l1, l2, l3, some (.int x), l5] [.int x] σ Q := ev_A1 d76_85 rfl
theorem d76_87 : decode (ab_C 76) 87 = .ok (.ireturn, 1) := by decide +kernel
theorem e76_87 {d : Nat} {l0 l1 l2 l3 l4 l5 : Option Value} {s0 : Int32} {σ : ab_St} {Q : Option Value → ab_St → Prop} : Ev d 76 87 [l0, l1, l2, l3, l4, l5] [.int s0] σ Q = Q (some (.int s0)) σ := ev_E d76_87 rfl rfl rfl rfl rfl rfl rfl
/-! SaidLeast.need(I)I -/
theorem d77_0 : decode (ab_C 77) 0 = .ok (.aload_n 0, 1) := by decide +kernel
theorem e77_0 {d : Nat} {l1 : Option Value} {x : Nat} {σ : ab_St} {Q : Option Value → ab_St → Prop} : Ev d 77 0 [some (.ref x), l1] [] σ Q = Ev d 77 1 [some (.ref x), l1] [.ref x] σ Q := ev_A1 d77_0 rfl
theorem d77_1 : decode (ab_C 77) 1 = .ok (.getfield 26, 3) := by decide +kernel
theorem e77_1 {d : Nat} {l0 l1 : Option Value} {s0 : Nat} {σ : ab_St} {Q : Option Value → ab_St → Prop} : Ev d 77 1 [l0, l1] [.ref s0] σ Q = (ab_k s0 = 0 ∧ Ev d 77 4 [l0, l1] [.ref (ab_r s0 2)] σ Q) := ev_Hc (c := ab_k s0 = 0) d77_1 rfl rfl rfl rfl rfl rfl rfl rfl
theorem d77_4 : decode (ab_C 77) 4 = .ok (.iload_n 1, 1) := by decide +kernel
theorem e77_4 {d : Nat} {l0 : Option Value} {x : Int32} {s0 : Nat} {σ : ab_St} {Q : Option Value → ab_St → Prop} : Ev d 77 4 [l0, some (.int x)] [.ref s0] σ Q = Ev d 77 5 [l0, some (.int x)] [.int x, .ref s0] σ Q := ev_A1 d77_4 rfl
theorem d77_5 : decode (ab_C 77) 5 = .ok (.invokevirtual 133, 3) := by decide +kernel
theorem e77_5 {d : Nat} {l0 l1 : Option Value} {s0 : Int32} {s1 : Nat} {σ : ab_St} {Q : Option Value → ab_St → Prop} : Ev (d + 1) 77 5 [l0, l1] [.int s0, .ref s1] σ Q = (ab_k s1 = 3 ∧ Ev d 26 0 [some (.ref s1), some (.int s0)] [] σ (fun r σ2 => Ev (d + 1) 77 8 [l0, l1] (r.toList ++ []) σ2 Q)) := ev_KV (b := s1) (ls := [l0, l1]) (st := [.int s0, .ref s1]) (as := [.int s0]) (rest := []) d77_5 rfl rfl rfl (Nat.le_of_ble_eq_true rfl) (Nat.le_of_ble_eq_true rfl) (Nat.le_of_ble_eq_true rfl) rfl rfl rfl rfl rfl rfl rfl
theorem d77_8 : decode (ab_C 77) 8 = .ok (.ifCond .ne 5, 3) := by decide +kernel
theorem e77_8 {d : Nat} {l0 l1 : Option Value} {s0 : Int32} {σ : ab_St} {Q : Option Value → ab_St → Prop} : Ev d 77 8 [l0, l1] [.int s0] σ Q = if s0 = 0 then Ev d 77 11 [l0, l1] [] σ Q else Ev d 77 13 [l0, l1] [] σ Q := ev_B (c := s0 = 0) d77_8 rfl rfl rfl rfl rfl
theorem d77_11 : decode (ab_C 77) 11 = .ok (.iconst (-1), 1) := by decide +kernel
theorem e77_11 {d : Nat} {l0 l1 : Option Value} {σ : ab_St} {Q : Option Value → ab_St → Prop} : Ev d 77 11 [l0, l1] [] σ Q = Ev d 77 12 [l0, l1] [.int (-1)] σ Q := ev_A1 d77_11 rfl
theorem d77_12 : decode (ab_C 77) 12 = .ok (.ireturn, 1) := by decide +kernel
theorem e77_12 {d : Nat} {l0 l1 : Option Value} {s0 : Int32} {σ : ab_St} {Q : Option Value → ab_St → Prop} : Ev d 77 12 [l0, l1] [.int s0] σ Q = Q (some (.int s0)) σ := ev_E d77_12 rfl rfl rfl rfl rfl rfl rfl
theorem d77_13 : decode (ab_C 77) 13 = .ok (.aload_n 0, 1) := by decide +kernel
theorem e77_13 {d : Nat} {l1 : Option Value} {x : Nat} {σ : ab_St} {Q : Option Value → ab_St → Prop} : Ev d 77 13 [some (.ref x), l1] [] σ Q = Ev d 77 14 [some (.ref x), l1] [.ref x] σ Q := ev_A1 d77_13 rfl
theorem d77_14 : decode (ab_C 77) 14 = .ok (.getfield 33, 3) := by decide +kernel
theorem e77_14 {d : Nat} {l0 l1 : Option Value} {s0 : Nat} {σ : ab_St} {Q : Option Value → ab_St → Prop} : Ev d 77 14 [l0, l1] [.ref s0] σ Q = (ab_k s0 = 0 ∧ Ev d 77 17 [l0, l1] [.ref (ab_r s0 3)] σ Q) := ev_Hc (c := ab_k s0 = 0) d77_14 rfl rfl rfl rfl rfl rfl rfl rfl
theorem d77_17 : decode (ab_C 77) 17 = .ok (.getfield 110, 3) := by decide +kernel
theorem e77_17 {d : Nat} {l0 l1 : Option Value} {s0 : Nat} {σ : ab_St} {Q : Option Value → ab_St → Prop} : Ev d 77 17 [l0, l1] [.ref s0] σ Q = (ab_k s0 = 4 ∧ Ev d 77 20 [l0, l1] [.int (σ.1 s0 1)] σ Q) := ev_Hc (c := ab_k s0 = 4) d77_17 rfl rfl rfl rfl rfl rfl rfl rfl
theorem d77_20 : decode (ab_C 77) 20 = .ok (.iload_n 1, 1) := by decide +kernel
theorem e77_20 {d : Nat} {l0 : Option Value} {x : Int32} {s0 : Int32} {σ : ab_St} {Q : Option Value → ab_St → Prop} : Ev d 77 20 [l0, some (.int x)] [.int s0] σ Q = Ev d 77 21 [l0, some (.int x)] [.int x, .int s0] σ Q := ev_A1 d77_20 rfl
theorem d77_21 : decode (ab_C 77) 21 = .ok (.invokestatic 141, 3) := by decide +kernel
theorem e77_21 {d : Nat} {l0 l1 : Option Value} {s0 : Int32} {s1 : Int32} {σ : ab_St} {Q : Option Value → ab_St → Prop} : Ev (d + 1) 77 21 [l0, l1] [.int s0, .int s1] σ Q = Ev d 32 0 [some (.int s1), some (.int s0)] [] σ (fun r σ2 => Ev (d + 1) 77 24 [l0, l1] (r.toList ++ []) σ2 Q) := ev_K0 (y := 32) (ls := [l0, l1]) (st := [.int s0, .int s1]) (as := [.int s1, .int s0]) (rest := []) d77_21 rfl rfl rfl rfl rfl rfl rfl rfl
theorem d77_24 : decode (ab_C 77) 24 = .ok (.ifCond .ne 6, 3) := by decide +kernel
theorem e77_24 {d : Nat} {l0 l1 : Option Value} {s0 : Int32} {σ : ab_St} {Q : Option Value → ab_St → Prop} : Ev d 77 24 [l0, l1] [.int s0] σ Q = if s0 = 0 then Ev d 77 27 [l0, l1] [] σ Q else Ev d 77 30 [l0, l1] [] σ Q := ev_B (c := s0 = 0) d77_24 rfl rfl rfl rfl rfl
theorem d77_27 : decode (ab_C 77) 27 = .ok (.bipush (-3), 2) := by decide +kernel
theorem e77_27 {d : Nat} {l0 l1 : Option Value} {σ : ab_St} {Q : Option Value → ab_St → Prop} : Ev d 77 27 [l0, l1] [] σ Q = Ev d 77 29 [l0, l1] [.int (-3)] σ Q := ev_A1 d77_27 rfl
theorem d77_29 : decode (ab_C 77) 29 = .ok (.ireturn, 1) := by decide +kernel
theorem e77_29 {d : Nat} {l0 l1 : Option Value} {s0 : Int32} {σ : ab_St} {Q : Option Value → ab_St → Prop} : Ev d 77 29 [l0, l1] [.int s0] σ Q = Q (some (.int s0)) σ := ev_E d77_29 rfl rfl rfl rfl rfl rfl rfl
theorem d77_30 : decode (ab_C 77) 30 = .ok (.aload_n 0, 1) := by decide +kernel
theorem e77_30 {d : Nat} {l1 : Option Value} {x : Nat} {σ : ab_St} {Q : Option Value → ab_St → Prop} : Ev d 77 30 [some (.ref x), l1] [] σ Q = Ev d 77 31 [some (.ref x), l1] [.ref x] σ Q := ev_A1 d77_30 rfl
theorem d77_31 : decode (ab_C 77) 31 = .ok (.getfield 33, 3) := by decide +kernel
theorem e77_31 {d : Nat} {l0 l1 : Option Value} {s0 : Nat} {σ : ab_St} {Q : Option Value → ab_St → Prop} : Ev d 77 31 [l0, l1] [.ref s0] σ Q = (ab_k s0 = 0 ∧ Ev d 77 34 [l0, l1] [.ref (ab_r s0 3)] σ Q) := ev_Hc (c := ab_k s0 = 0) d77_31 rfl rfl rfl rfl rfl rfl rfl rfl
theorem d77_34 : decode (ab_C 77) 34 = .ok (.aload_n 0, 1) := by decide +kernel
theorem e77_34 {d : Nat} {l1 : Option Value} {x : Nat} {s0 : Nat} {σ : ab_St} {Q : Option Value → ab_St → Prop} : Ev d 77 34 [some (.ref x), l1] [.ref s0] σ Q = Ev d 77 35 [some (.ref x), l1] [.ref x, .ref s0] σ Q := ev_A1 d77_34 rfl
theorem d77_35 : decode (ab_C 77) 35 = .ok (.getfield 33, 3) := by decide +kernel
theorem e77_35 {d : Nat} {l0 l1 : Option Value} {s0 : Nat} {s1 : Nat} {σ : ab_St} {Q : Option Value → ab_St → Prop} : Ev d 77 35 [l0, l1] [.ref s0, .ref s1] σ Q = (ab_k s0 = 0 ∧ Ev d 77 38 [l0, l1] [.ref (ab_r s0 3), .ref s1] σ Q) := ev_Hc (c := ab_k s0 = 0) d77_35 rfl rfl rfl rfl rfl rfl rfl rfl
theorem d77_38 : decode (ab_C 77) 38 = .ok (.getfield 137, 3) := by decide +kernel
theorem e77_38 {d : Nat} {l0 l1 : Option Value} {s0 : Nat} {s1 : Nat} {σ : ab_St} {Q : Option Value → ab_St → Prop} : Ev d 77 38 [l0, l1] [.ref s0, .ref s1] σ Q = (ab_k s0 = 4 ∧ Ev d 77 41 [l0, l1] [.ref (ab_r s0 0), .ref s1] σ Q) := ev_Hc (c := ab_k s0 = 4) d77_38 rfl rfl rfl rfl rfl rfl rfl rfl
theorem d77_41 : decode (ab_C 77) 41 = .ok (.iload_n 1, 1) := by decide +kernel
theorem e77_41 {d : Nat} {l0 : Option Value} {x : Int32} {s0 : Nat} {s1 : Nat} {σ : ab_St} {Q : Option Value → ab_St → Prop} : Ev d 77 41 [l0, some (.int x)] [.ref s0, .ref s1] σ Q = Ev d 77 42 [l0, some (.int x)] [.int x, .ref s0, .ref s1] σ Q := ev_A1 d77_41 rfl
theorem d77_42 : decode (ab_C 77) 42 = .ok (.iaload, 1) := by decide +kernel
theorem e77_42 {d : Nat} {l0 l1 : Option Value} {s0 : Int32} {s1 : Nat} {s2 : Nat} {σ : ab_St} {Q : Option Value → ab_St → Prop} : Ev d 77 42 [l0, l1] [.int s0, .ref s1, .ref s2] σ Q = ((ab_k s1 = 100 ∧ ab_in s0 (ab_n s1)) ∧ Ev d 77 43 [l0, l1] [.int (σ.1 s1 s0.toNatClampNeg), .ref s2] σ Q) := ev_Hc (c := ab_k s1 = 100 ∧ ab_in s0 (ab_n s1)) d77_42 rfl rfl rfl rfl rfl rfl rfl rfl
theorem d77_43 : decode (ab_C 77) 43 = .ok (.invokevirtual 196, 3) := by decide +kernel
theorem e77_43 {d : Nat} {l0 l1 : Option Value} {s0 : Int32} {s1 : Nat} {σ : ab_St} {Q : Option Value → ab_St → Prop} : Ev (d + 1) 77 43 [l0, l1] [.int s0, .ref s1] σ Q = (ab_k s1 = 4 ∧ Ev d 78 0 [some (.ref s1), some (.int s0), none, none] [] σ (fun r σ2 => Ev (d + 1) 77 46 [l0, l1] (r.toList ++ []) σ2 Q)) := ev_KV (b := s1) (ls := [l0, l1]) (st := [.int s0, .ref s1]) (as := [.int s0]) (rest := []) d77_43 rfl rfl rfl (Nat.le_of_ble_eq_true rfl) (Nat.le_of_ble_eq_true rfl) (Nat.le_of_ble_eq_true rfl) rfl rfl rfl rfl rfl rfl rfl
theorem d77_46 : decode (ab_C 77) 46 = .ok (.ireturn, 1) := by decide +kernel
theorem e77_46 {d : Nat} {l0 l1 : Option Value} {s0 : Int32} {σ : ab_St} {Q : Option Value → ab_St → Prop} : Ev d 77 46 [l0, l1] [.int s0] σ Q = Q (some (.int s0)) σ := ev_E d77_46 rfl rfl rfl rfl rfl rfl rfl
/-! SaidLeast$State.wordsMissingBelow(I)I -/
theorem d78_0 : decode (ab_C 78) 0 = .ok (.iconst 0, 1) := by decide +kernel
theorem e78_0 {d : Nat} {l0 l1 l2 l3 : Option Value} {σ : ab_St} {Q : Option Value → ab_St → Prop} : Ev d 78 0 [l0, l1, l2, l3] [] σ Q = Ev d 78 1 [l0, l1, l2, l3] [.int 0] σ Q := ev_A1 d78_0 rfl
theorem d78_1 : decode (ab_C 78) 1 = .ok (.istore_n 2, 1) := by decide +kernel
theorem e78_1 {d : Nat} {l0 l1 l2 l3 : Option Value} {s0 : Int32} {σ : ab_St} {Q : Option Value → ab_St → Prop} : Ev d 78 1 [l0, l1, l2, l3] [.int s0] σ Q = Ev d 78 2 [l0, l1, some (.int s0), l3] [] σ Q := ev_S d78_1 rfl rfl rfl rfl
theorem d78_2 : decode (ab_C 78) 2 = .ok (.iconst 0, 1) := by decide +kernel
theorem e78_2 {d : Nat} {l0 l1 l2 l3 : Option Value} {σ : ab_St} {Q : Option Value → ab_St → Prop} : Ev d 78 2 [l0, l1, l2, l3] [] σ Q = Ev d 78 3 [l0, l1, l2, l3] [.int 0] σ Q := ev_A1 d78_2 rfl
theorem d78_3 : decode (ab_C 78) 3 = .ok (.istore_n 3, 1) := by decide +kernel
theorem e78_3 {d : Nat} {l0 l1 l2 l3 : Option Value} {s0 : Int32} {σ : ab_St} {Q : Option Value → ab_St → Prop} : Ev d 78 3 [l0, l1, l2, l3] [.int s0] σ Q = Ev d 78 4 [l0, l1, l2, some (.int s0)] [] σ Q := ev_S d78_3 rfl rfl rfl rfl
theorem d78_4 : decode (ab_C 78) 4 = .ok (.iload_n 3, 1) := by decide +kernel
theorem e78_4 {d : Nat} {l0 l1 l2 : Option Value} {x : Int32} {σ : ab_St} {Q : Option Value → ab_St → Prop} : Ev d 78 4 [l0, l1, l2, some (.int x)] [] σ Q = Ev d 78 5 [l0, l1, l2, some (.int x)] [.int x] σ Q := ev_A1 d78_4 rfl
theorem d78_5 : decode (ab_C 78) 5 = .ok (.bipush 6, 2) := by decide +kernel
theorem e78_5 {d : Nat} {l0 l1 l2 l3 : Option Value} {s0 : Int32} {σ : ab_St} {Q : Option Value → ab_St → Prop} : Ev d 78 5 [l0, l1, l2, l3] [.int s0] σ Q = Ev d 78 7 [l0, l1, l2, l3] [.int 6, .int s0] σ Q := ev_A1 d78_5 rfl
theorem d78_7 : decode (ab_C 78) 7 = .ok (.if_icmp .ge 35, 3) := by decide +kernel
theorem e78_7 {d : Nat} {l0 l1 l2 l3 : Option Value} {s0 : Int32} {s1 : Int32} {σ : ab_St} {Q : Option Value → ab_St → Prop} : Ev d 78 7 [l0, l1, l2, l3] [.int s0, .int s1] σ Q = if s0 ≤ s1 then Ev d 78 42 [l0, l1, l2, l3] [] σ Q else Ev d 78 10 [l0, l1, l2, l3] [] σ Q := ev_B (c := s0 ≤ s1) d78_7 rfl rfl rfl rfl rfl
theorem d78_10 : decode (ab_C 78) 10 = .ok (.aload_n 0, 1) := by decide +kernel
theorem e78_10 {d : Nat} {l1 l2 l3 : Option Value} {x : Nat} {σ : ab_St} {Q : Option Value → ab_St → Prop} : Ev d 78 10 [some (.ref x), l1, l2, l3] [] σ Q = Ev d 78 11 [some (.ref x), l1, l2, l3] [.ref x] σ Q := ev_A1 d78_10 rfl
theorem d78_11 : decode (ab_C 78) 11 = .ok (.getfield 25, 3) := by decide +kernel
theorem e78_11 {d : Nat} {l0 l1 l2 l3 : Option Value} {s0 : Nat} {σ : ab_St} {Q : Option Value → ab_St → Prop} : Ev d 78 11 [l0, l1, l2, l3] [.ref s0] σ Q = (ab_k s0 = 4 ∧ Ev d 78 14 [l0, l1, l2, l3] [.int (σ.1 s0 1)] σ Q) := ev_Hc (c := ab_k s0 = 4) d78_11 rfl rfl rfl rfl rfl rfl rfl rfl
theorem d78_14 : decode (ab_C 78) 14 = .ok (.iload_n 3, 1) := by decide +kernel
theorem e78_14 {d : Nat} {l0 l1 l2 : Option Value} {x : Int32} {s0 : Int32} {σ : ab_St} {Q : Option Value → ab_St → Prop} : Ev d 78 14 [l0, l1, l2, some (.int x)] [.int s0] σ Q = Ev d 78 15 [l0, l1, l2, some (.int x)] [.int x, .int s0] σ Q := ev_A1 d78_14 rfl
theorem d78_15 : decode (ab_C 78) 15 = .ok (.invokestatic 40, 3) := by decide +kernel
theorem e78_15 {d : Nat} {l0 l1 l2 l3 : Option Value} {s0 : Int32} {s1 : Int32} {σ : ab_St} {Q : Option Value → ab_St → Prop} : Ev (d + 1) 78 15 [l0, l1, l2, l3] [.int s0, .int s1] σ Q = Ev d 32 0 [some (.int s1), some (.int s0)] [] σ (fun r σ2 => Ev (d + 1) 78 18 [l0, l1, l2, l3] (r.toList ++ []) σ2 Q) := ev_K0 (y := 32) (ls := [l0, l1, l2, l3]) (st := [.int s0, .int s1]) (as := [.int s1, .int s0]) (rest := []) d78_15 rfl rfl rfl rfl rfl rfl rfl rfl
theorem d78_18 : decode (ab_C 78) 18 = .ok (.ifCond .eq 18, 3) := by decide +kernel
theorem e78_18 {d : Nat} {l0 l1 l2 l3 : Option Value} {s0 : Int32} {σ : ab_St} {Q : Option Value → ab_St → Prop} : Ev d 78 18 [l0, l1, l2, l3] [.int s0] σ Q = if s0 = 0 then Ev d 78 36 [l0, l1, l2, l3] [] σ Q else Ev d 78 21 [l0, l1, l2, l3] [] σ Q := ev_B (c := s0 = 0) d78_18 rfl rfl rfl rfl rfl
theorem d78_21 : decode (ab_C 78) 21 = .ok (.iload_n 2, 1) := by decide +kernel
theorem e78_21 {d : Nat} {l0 l1 l3 : Option Value} {x : Int32} {σ : ab_St} {Q : Option Value → ab_St → Prop} : Ev d 78 21 [l0, l1, some (.int x), l3] [] σ Q = Ev d 78 22 [l0, l1, some (.int x), l3] [.int x] σ Q := ev_A1 d78_21 rfl
theorem d78_22 : decode (ab_C 78) 22 = .ok (.iconst 0, 1) := by decide +kernel
theorem e78_22 {d : Nat} {l0 l1 l2 l3 : Option Value} {s0 : Int32} {σ : ab_St} {Q : Option Value → ab_St → Prop} : Ev d 78 22 [l0, l1, l2, l3] [.int s0] σ Q = Ev d 78 23 [l0, l1, l2, l3] [.int 0, .int s0] σ Q := ev_A1 d78_22 rfl
theorem d78_23 : decode (ab_C 78) 23 = .ok (.iload_n 1, 1) := by decide +kernel
theorem e78_23 {d : Nat} {l0 l2 l3 : Option Value} {x : Int32} {s0 : Int32} {s1 : Int32} {σ : ab_St} {Q : Option Value → ab_St → Prop} : Ev d 78 23 [l0, some (.int x), l2, l3] [.int s0, .int s1] σ Q = Ev d 78 24 [l0, some (.int x), l2, l3] [.int x, .int s0, .int s1] σ Q := ev_A1 d78_23 rfl
theorem d78_24 : decode (ab_C 78) 24 = .ok (.aload_n 0, 1) := by decide +kernel
theorem e78_24 {d : Nat} {l1 l2 l3 : Option Value} {x : Nat} {s0 : Int32} {s1 : Int32} {s2 : Int32} {σ : ab_St} {Q : Option Value → ab_St → Prop} : Ev d 78 24 [some (.ref x), l1, l2, l3] [.int s0, .int s1, .int s2] σ Q = Ev d 78 25 [some (.ref x), l1, l2, l3] [.ref x, .int s0, .int s1, .int s2] σ Q := ev_A1 d78_24 rfl
theorem d78_25 : decode (ab_C 78) 25 = .ok (.getfield 9, 3) := by decide +kernel
theorem e78_25 {d : Nat} {l0 l1 l2 l3 : Option Value} {s0 : Nat} {s1 : Int32} {s2 : Int32} {s3 : Int32} {σ : ab_St} {Q : Option Value → ab_St → Prop} : Ev d 78 25 [l0, l1, l2, l3] [.ref s0, .int s1, .int s2, .int s3] σ Q = (ab_k s0 = 4 ∧ Ev d 78 28 [l0, l1, l2, l3] [.ref (ab_r s0 0), .int s1, .int s2, .int s3] σ Q) := ev_Hc (c := ab_k s0 = 4) d78_25 rfl rfl rfl rfl rfl rfl rfl rfl
theorem d78_28 : decode (ab_C 78) 28 = .ok (.iload_n 3, 1) := by decide +kernel
theorem e78_28 {d : Nat} {l0 l1 l2 : Option Value} {x : Int32} {s0 : Nat} {s1 : Int32} {s2 : Int32} {s3 : Int32} {σ : ab_St} {Q : Option Value → ab_St → Prop} : Ev d 78 28 [l0, l1, l2, some (.int x)] [.ref s0, .int s1, .int s2, .int s3] σ Q = Ev d 78 29 [l0, l1, l2, some (.int x)] [.int x, .ref s0, .int s1, .int s2, .int s3] σ Q := ev_A1 d78_28 rfl
theorem d78_29 : decode (ab_C 78) 29 = .ok (.iaload, 1) := by decide +kernel
theorem e78_29 {d : Nat} {l0 l1 l2 l3 : Option Value} {s0 : Int32} {s1 : Nat} {s2 : Int32} {s3 : Int32} {s4 : Int32} {σ : ab_St} {Q : Option Value → ab_St → Prop} : Ev d 78 29 [l0, l1, l2, l3] [.int s0, .ref s1, .int s2, .int s3, .int s4] σ Q = ((ab_k s1 = 100 ∧ ab_in s0 (ab_n s1)) ∧ Ev d 78 30 [l0, l1, l2, l3] [.int (σ.1 s1 s0.toNatClampNeg), .int s2, .int s3, .int s4] σ Q) := ev_Hc (c := ab_k s1 = 100 ∧ ab_in s0 (ab_n s1)) d78_29 rfl rfl rfl rfl rfl rfl rfl rfl
theorem d78_30 : decode (ab_C 78) 30 = .ok (.isub, 1) := by decide +kernel
theorem e78_30 {d : Nat} {l0 l1 l2 l3 : Option Value} {s0 : Int32} {s1 : Int32} {s2 : Int32} {s3 : Int32} {σ : ab_St} {Q : Option Value → ab_St → Prop} : Ev d 78 30 [l0, l1, l2, l3] [.int s0, .int s1, .int s2, .int s3] σ Q = Ev d 78 31 [l0, l1, l2, l3] [.int (s1 - s0), .int s2, .int s3] σ Q := ev_A2 d78_30 rfl rfl
theorem d78_31 : decode (ab_C 78) 31 = .ok (.invokestatic 44, 3) := by decide +kernel
theorem e78_31 {d : Nat} {l0 l1 l2 l3 : Option Value} {s0 : Int32} {s1 : Int32} {s2 : Int32} {σ : ab_St} {Q : Option Value → ab_St → Prop} : Ev (d + 1) 78 31 [l0, l1, l2, l3] [.int s0, .int s1, .int s2] σ Q = Ev (d + 1) 78 34 [l0, l1, l2, l3] [.int (if s1 < s0 then s0 else s1), .int s2] σ Q := ev_X d78_31 rfl rfl (ab_X_ok (k := 0) (st := [.int s2]) rfl (Nat.le_of_ble_eq_true rfl))
theorem d78_34 : decode (ab_C 78) 34 = .ok (.iadd, 1) := by decide +kernel
theorem e78_34 {d : Nat} {l0 l1 l2 l3 : Option Value} {s0 : Int32} {s1 : Int32} {σ : ab_St} {Q : Option Value → ab_St → Prop} : Ev d 78 34 [l0, l1, l2, l3] [.int s0, .int s1] σ Q = Ev d 78 35 [l0, l1, l2, l3] [.int (s1 + s0)] σ Q := ev_A2 d78_34 rfl rfl
theorem d78_35 : decode (ab_C 78) 35 = .ok (.istore_n 2, 1) := by decide +kernel
theorem e78_35 {d : Nat} {l0 l1 l2 l3 : Option Value} {s0 : Int32} {σ : ab_St} {Q : Option Value → ab_St → Prop} : Ev d 78 35 [l0, l1, l2, l3] [.int s0] σ Q = Ev d 78 36 [l0, l1, some (.int s0), l3] [] σ Q := ev_S d78_35 rfl rfl rfl rfl
theorem d78_36 : decode (ab_C 78) 36 = .ok (.iinc 3 1, 3) := by decide +kernel
theorem e78_36 {d : Nat} {l0 l1 l2 : Option Value} {x : Int32} {σ : ab_St} {Q : Option Value → ab_St → Prop} : Ev d 78 36 [l0, l1, l2, some (.int x)] [] σ Q = Ev d 78 39 [l0, l1, l2, some (.int (x + 1))] [] σ Q := ev_S d78_36 rfl rfl rfl rfl
theorem d78_39 : decode (ab_C 78) 39 = .ok (.goto (-35), 3) := by decide +kernel
theorem e78_39 {d : Nat} {l0 l1 l2 l3 : Option Value} {σ : ab_St} {Q : Option Value → ab_St → Prop} : Ev d 78 39 [l0, l1, l2, l3] [] σ Q = Ev d 78 4 [l0, l1, l2, l3] [] σ Q := ev_J d78_39 rfl rfl rfl rfl rfl
theorem d78_42 : decode (ab_C 78) 42 = .ok (.iload_n 2, 1) := by decide +kernel
theorem e78_42 {d : Nat} {l0 l1 l3 : Option Value} {x : Int32} {σ : ab_St} {Q : Option Value → ab_St → Prop} : Ev d 78 42 [l0, l1, some (.int x), l3] [] σ Q = Ev d 78 43 [l0, l1, some (.int x), l3] [.int x] σ Q := ev_A1 d78_42 rfl
theorem d78_43 : decode (ab_C 78) 43 = .ok (.ireturn, 1) := by decide +kernel
theorem e78_43 {d : Nat} {l0 l1 l2 l3 : Option Value} {s0 : Int32} {σ : ab_St} {Q : Option Value → ab_St → Prop} : Ev d 78 43 [l0, l1, l2, l3] [.int s0] σ Q = Q (some (.int s0)) σ := ev_E d78_43 rfl rfl rfl rfl rfl rfl rfl
/-! SaidLeast.each()I -/
theorem d79_0 : decode (ab_C 79) 0 = .ok (.aload_n 0, 1) := by decide +kernel
theorem e79_0 {d : Nat} {x : Nat} {σ : ab_St} {Q : Option Value → ab_St → Prop} : Ev d 79 0 [some (.ref x)] [] σ Q = Ev d 79 1 [some (.ref x)] [.ref x] σ Q := ev_A1 d79_0 rfl
theorem d79_1 : decode (ab_C 79) 1 = .ok (.getfield 61, 3) := by decide +kernel
theorem e79_1 {d : Nat} {l0 : Option Value} {s0 : Nat} {σ : ab_St} {Q : Option Value → ab_St → Prop} : Ev d 79 1 [l0] [.ref s0] σ Q = (ab_k s0 = 0 ∧ Ev d 79 4 [l0] [.ref (ab_r s0 8)] σ Q) := ev_Hc (c := ab_k s0 = 0) d79_1 rfl rfl rfl rfl rfl rfl rfl rfl
theorem d79_4 : decode (ab_C 79) 4 = .ok (.aload_n 0, 1) := by decide +kernel
theorem e79_4 {d : Nat} {x : Nat} {s0 : Nat} {σ : ab_St} {Q : Option Value → ab_St → Prop} : Ev d 79 4 [some (.ref x)] [.ref s0] σ Q = Ev d 79 5 [some (.ref x)] [.ref x, .ref s0] σ Q := ev_A1 d79_4 rfl
theorem d79_5 : decode (ab_C 79) 5 = .ok (.getfield 26, 3) := by decide +kernel
theorem e79_5 {d : Nat} {l0 : Option Value} {s0 : Nat} {s1 : Nat} {σ : ab_St} {Q : Option Value → ab_St → Prop} : Ev d 79 5 [l0] [.ref s0, .ref s1] σ Q = (ab_k s0 = 0 ∧ Ev d 79 8 [l0] [.ref (ab_r s0 2), .ref s1] σ Q) := ev_Hc (c := ab_k s0 = 0) d79_5 rfl rfl rfl rfl rfl rfl rfl rfl
theorem d79_8 : decode (ab_C 79) 8 = .ok (.aload_n 0, 1) := by decide +kernel
theorem e79_8 {d : Nat} {x : Nat} {s0 : Nat} {s1 : Nat} {σ : ab_St} {Q : Option Value → ab_St → Prop} : Ev d 79 8 [some (.ref x)] [.ref s0, .ref s1] σ Q = Ev d 79 9 [some (.ref x)] [.ref x, .ref s0, .ref s1] σ Q := ev_A1 d79_8 rfl
theorem d79_9 : decode (ab_C 79) 9 = .ok (.getfield 33, 3) := by decide +kernel
theorem e79_9 {d : Nat} {l0 : Option Value} {s0 : Nat} {s1 : Nat} {s2 : Nat} {σ : ab_St} {Q : Option Value → ab_St → Prop} : Ev d 79 9 [l0] [.ref s0, .ref s1, .ref s2] σ Q = (ab_k s0 = 0 ∧ Ev d 79 12 [l0] [.ref (ab_r s0 3), .ref s1, .ref s2] σ Q) := ev_Hc (c := ab_k s0 = 0) d79_9 rfl rfl rfl rfl rfl rfl rfl rfl
theorem d79_12 : decode (ab_C 79) 12 = .ok (.invokevirtual 199, 3) := by decide +kernel
theorem e79_12 {d : Nat} {l0 : Option Value} {s0 : Nat} {s1 : Nat} {s2 : Nat} {σ : ab_St} {Q : Option Value → ab_St → Prop} : Ev (d + 1) 79 12 [l0] [.ref s0, .ref s1, .ref s2] σ Q = (ab_k s2 = 8 ∧ Ev d 80 0 [some (.ref s2), some (.ref s1), some (.ref s0), none] [] σ (fun r σ2 => Ev (d + 1) 79 15 [l0] (r.toList ++ []) σ2 Q)) := ev_KV (b := s2) (ls := [l0]) (st := [.ref s0, .ref s1, .ref s2]) (as := [.ref s1, .ref s0]) (rest := []) d79_12 rfl rfl rfl (Nat.le_of_ble_eq_true rfl) (Nat.le_of_ble_eq_true rfl) (Nat.le_of_ble_eq_true rfl) rfl rfl rfl rfl rfl rfl rfl
theorem d79_15 : decode (ab_C 79) 15 = .ok (.ireturn, 1) := by decide +kernel
theorem e79_15 {d : Nat} {l0 : Option Value} {s0 : Int32} {σ : ab_St} {Q : Option Value → ab_St → Prop} : Ev d 79 15 [l0] [.int s0] σ Q = Q (some (.int s0)) σ := ev_E d79_15 rfl rfl rfl rfl rfl rfl rfl
/-! SaidLeast$Contest.endOf(LSaidLeast$Told;LSaidLeast$State;)I -/
theorem d80_0 : decode (ab_C 80) 0 = .ok (.aload_n 0, 1) := by decide +kernel
theorem e80_0 {d : Nat} {l1 l2 l3 : Option Value} {x : Nat} {σ : ab_St} {Q : Option Value → ab_St → Prop} : Ev d 80 0 [some (.ref x), l1, l2, l3] [] σ Q = Ev d 80 1 [some (.ref x), l1, l2, l3] [.ref x] σ Q := ev_A1 d80_0 rfl
theorem d80_1 : decode (ab_C 80) 1 = .ok (.aload_n 1, 1) := by decide +kernel
theorem e80_1 {d : Nat} {l0 l2 l3 : Option Value} {x : Nat} {s0 : Nat} {σ : ab_St} {Q : Option Value → ab_St → Prop} : Ev d 80 1 [l0, some (.ref x), l2, l3] [.ref s0] σ Q = Ev d 80 2 [l0, some (.ref x), l2, l3] [.ref x, .ref s0] σ Q := ev_A1 d80_1 rfl
theorem d80_2 : decode (ab_C 80) 2 = .ok (.aload_n 2, 1) := by decide +kernel
theorem e80_2 {d : Nat} {l0 l1 l3 : Option Value} {x : Nat} {s0 : Nat} {s1 : Nat} {σ : ab_St} {Q : Option Value → ab_St → Prop} : Ev d 80 2 [l0, l1, some (.ref x), l3] [.ref s0, .ref s1] σ Q = Ev d 80 3 [l0, l1, some (.ref x), l3] [.ref x, .ref s0, .ref s1] σ Q := ev_A1 d80_2 rfl
theorem d80_3 : decode (ab_C 80) 3 = .ok (.invokevirtual 25, 3) := by decide +kernel
theorem e80_3 {d : Nat} {l0 l1 l2 l3 : Option Value} {s0 : Nat} {s1 : Nat} {s2 : Nat} {σ : ab_St} {Q : Option Value → ab_St → Prop} : Ev (d + 1) 80 3 [l0, l1, l2, l3] [.ref s0, .ref s1, .ref s2] σ Q = (ab_k s2 = 8 ∧ Ev d 81 0 [some (.ref s2), some (.ref s1), some (.ref s0), none] [] σ (fun r σ2 => Ev (d + 1) 80 6 [l0, l1, l2, l3] (r.toList ++ []) σ2 Q)) := ev_KV (b := s2) (ls := [l0, l1, l2, l3]) (st := [.ref s0, .ref s1, .ref s2]) (as := [.ref s1, .ref s0]) (rest := []) d80_3 rfl rfl rfl (Nat.le_of_ble_eq_true rfl) (Nat.le_of_ble_eq_true rfl) (Nat.le_of_ble_eq_true rfl) rfl rfl rfl rfl rfl rfl rfl
theorem d80_6 : decode (ab_C 80) 6 = .ok (.iconst 1, 1) := by decide +kernel
theorem e80_6 {d : Nat} {l0 l1 l2 l3 : Option Value} {σ : ab_St} {Q : Option Value → ab_St → Prop} : Ev d 80 6 [l0, l1, l2, l3] [] σ Q = Ev d 80 7 [l0, l1, l2, l3] [.int 1] σ Q := ev_A1 d80_6 rfl
theorem d80_7 : decode (ab_C 80) 7 = .ok (.aload_n 1, 1) := by decide +kernel
theorem e80_7 {d : Nat} {l0 l2 l3 : Option Value} {x : Nat} {s0 : Int32} {σ : ab_St} {Q : Option Value → ab_St → Prop} : Ev d 80 7 [l0, some (.ref x), l2, l3] [.int s0] σ Q = Ev d 80 8 [l0, some (.ref x), l2, l3] [.ref x, .int s0] σ Q := ev_A1 d80_7 rfl
theorem d80_8 : decode (ab_C 80) 8 = .ok (.getfield 29, 3) := by decide +kernel
theorem e80_8 {d : Nat} {l0 l1 l2 l3 : Option Value} {s0 : Nat} {s1 : Int32} {σ : ab_St} {Q : Option Value → ab_St → Prop} : Ev d 80 8 [l0, l1, l2, l3] [.ref s0, .int s1] σ Q = (ab_k s0 = 3 ∧ Ev d 80 11 [l0, l1, l2, l3] [.int (σ.1 s0 5), .int s1] σ Q) := ev_Hc (c := ab_k s0 = 3) d80_8 rfl rfl rfl rfl rfl rfl rfl rfl
theorem d80_11 : decode (ab_C 80) 11 = .ok (.ishl, 1) := by decide +kernel
theorem e80_11 {d : Nat} {l0 l1 l2 l3 : Option Value} {s0 : Int32} {s1 : Int32} {σ : ab_St} {Q : Option Value → ab_St → Prop} : Ev d 80 11 [l0, l1, l2, l3] [.int s0, .int s1] σ Q = Ev d 80 12 [l0, l1, l2, l3] [.int (s1 <<< (s0 &&& 31))] σ Q := ev_A2 d80_11 rfl rfl
theorem d80_12 : decode (ab_C 80) 12 = .ok (.iconst 1, 1) := by decide +kernel
theorem e80_12 {d : Nat} {l0 l1 l2 l3 : Option Value} {s0 : Int32} {σ : ab_St} {Q : Option Value → ab_St → Prop} : Ev d 80 12 [l0, l1, l2, l3] [.int s0] σ Q = Ev d 80 13 [l0, l1, l2, l3] [.int 1, .int s0] σ Q := ev_A1 d80_12 rfl
theorem d80_13 : decode (ab_C 80) 13 = .ok (.isub, 1) := by decide +kernel
theorem e80_13 {d : Nat} {l0 l1 l2 l3 : Option Value} {s0 : Int32} {s1 : Int32} {σ : ab_St} {Q : Option Value → ab_St → Prop} : Ev d 80 13 [l0, l1, l2, l3] [.int s0, .int s1] σ Q = Ev d 80 14 [l0, l1, l2, l3] [.int (s1 - s0)] σ Q := ev_A2 d80_13 rfl rfl
theorem d80_14 : decode (ab_C 80) 14 = .ok (.istore_n 3, 1) := by decide +kernel
theorem e80_14 {d : Nat} {l0 l1 l2 l3 : Option Value} {s0 : Int32} {σ : ab_St} {Q : Option Value → ab_St → Prop} : Ev d 80 14 [l0, l1, l2, l3] [.int s0] σ Q = Ev d 80 15 [l0, l1, l2, some (.int s0)] [] σ Q := ev_S d80_14 rfl rfl rfl rfl
theorem d80_15 : decode (ab_C 80) 15 = .ok (.iload_n 3, 1) := by decide +kernel
theorem e80_15 {d : Nat} {l0 l1 l2 : Option Value} {x : Int32} {σ : ab_St} {Q : Option Value → ab_St → Prop} : Ev d 80 15 [l0, l1, l2, some (.int x)] [] σ Q = Ev d 80 16 [l0, l1, l2, some (.int x)] [.int x] σ Q := ev_A1 d80_15 rfl
theorem d80_16 : decode (ab_C 80) 16 = .ok (.aload_n 2, 1) := by decide +kernel
theorem e80_16 {d : Nat} {l0 l1 l3 : Option Value} {x : Nat} {s0 : Int32} {σ : ab_St} {Q : Option Value → ab_St → Prop} : Ev d 80 16 [l0, l1, some (.ref x), l3] [.int s0] σ Q = Ev d 80 17 [l0, l1, some (.ref x), l3] [.ref x, .int s0] σ Q := ev_A1 d80_16 rfl
theorem d80_17 : decode (ab_C 80) 17 = .ok (.getfield 35, 3) := by decide +kernel
theorem e80_17 {d : Nat} {l0 l1 l2 l3 : Option Value} {s0 : Nat} {s1 : Int32} {σ : ab_St} {Q : Option Value → ab_St → Prop} : Ev d 80 17 [l0, l1, l2, l3] [.ref s0, .int s1] σ Q = (ab_k s0 = 4 ∧ Ev d 80 20 [l0, l1, l2, l3] [.int (σ.1 s0 2), .int s1] σ Q) := ev_Hc (c := ab_k s0 = 4) d80_17 rfl rfl rfl rfl rfl rfl rfl rfl
theorem d80_20 : decode (ab_C 80) 20 = .ok (.if_icmp .lt 30, 3) := by decide +kernel
theorem e80_20 {d : Nat} {l0 l1 l2 l3 : Option Value} {s0 : Int32} {s1 : Int32} {σ : ab_St} {Q : Option Value → ab_St → Prop} : Ev d 80 20 [l0, l1, l2, l3] [.int s0, .int s1] σ Q = if s1 < s0 then Ev d 80 50 [l0, l1, l2, l3] [] σ Q else Ev d 80 23 [l0, l1, l2, l3] [] σ Q := ev_B (c := s1 < s0) d80_20 rfl rfl rfl rfl rfl
theorem d80_23 : decode (ab_C 80) 23 = .ok (.aload_n 0, 1) := by decide +kernel
theorem e80_23 {d : Nat} {l1 l2 l3 : Option Value} {x : Nat} {σ : ab_St} {Q : Option Value → ab_St → Prop} : Ev d 80 23 [some (.ref x), l1, l2, l3] [] σ Q = Ev d 80 24 [some (.ref x), l1, l2, l3] [.ref x] σ Q := ev_A1 d80_23 rfl
theorem d80_24 : decode (ab_C 80) 24 = .ok (.getfield 18, 3) := by decide +kernel
theorem e80_24 {d : Nat} {l0 l1 l2 l3 : Option Value} {s0 : Nat} {σ : ab_St} {Q : Option Value → ab_St → Prop} : Ev d 80 24 [l0, l1, l2, l3] [.ref s0] σ Q = (ab_k s0 = 8 ∧ Ev d 80 27 [l0, l1, l2, l3] [.ref (ab_r s0 1)] σ Q) := ev_Hc (c := ab_k s0 = 8) d80_24 rfl rfl rfl rfl rfl rfl rfl rfl
theorem d80_27 : decode (ab_C 80) 27 = .ok (.iload_n 3, 1) := by decide +kernel
theorem e80_27 {d : Nat} {l0 l1 l2 : Option Value} {x : Int32} {s0 : Nat} {σ : ab_St} {Q : Option Value → ab_St → Prop} : Ev d 80 27 [l0, l1, l2, some (.int x)] [.ref s0] σ Q = Ev d 80 28 [l0, l1, l2, some (.int x)] [.int x, .ref s0] σ Q := ev_A1 d80_27 rfl
theorem d80_28 : decode (ab_C 80) 28 = .ok (.iaload, 1) := by decide +kernel
theorem e80_28 {d : Nat} {l0 l1 l2 l3 : Option Value} {s0 : Int32} {s1 : Nat} {σ : ab_St} {Q : Option Value → ab_St → Prop} : Ev d 80 28 [l0, l1, l2, l3] [.int s0, .ref s1] σ Q = ((ab_k s1 = 100 ∧ ab_in s0 (ab_n s1)) ∧ Ev d 80 29 [l0, l1, l2, l3] [.int (σ.1 s1 s0.toNatClampNeg)] σ Q) := ev_Hc (c := ab_k s1 = 100 ∧ ab_in s0 (ab_n s1)) d80_28 rfl rfl rfl rfl rfl rfl rfl rfl
theorem d80_29 : decode (ab_C 80) 29 = .ok (.ifCond .eq 15, 3) := by decide +kernel
theorem e80_29 {d : Nat} {l0 l1 l2 l3 : Option Value} {s0 : Int32} {σ : ab_St} {Q : Option Value → ab_St → Prop} : Ev d 80 29 [l0, l1, l2, l3] [.int s0] σ Q = if s0 = 0 then Ev d 80 44 [l0, l1, l2, l3] [] σ Q else Ev d 80 32 [l0, l1, l2, l3] [] σ Q := ev_B (c := s0 = 0) d80_29 rfl rfl rfl rfl rfl
theorem d80_32 : decode (ab_C 80) 32 = .ok (.aload_n 0, 1) := by decide +kernel
theorem e80_32 {d : Nat} {l1 l2 l3 : Option Value} {x : Nat} {σ : ab_St} {Q : Option Value → ab_St → Prop} : Ev d 80 32 [some (.ref x), l1, l2, l3] [] σ Q = Ev d 80 33 [some (.ref x), l1, l2, l3] [.ref x] σ Q := ev_A1 d80_32 rfl
theorem d80_33 : decode (ab_C 80) 33 = .ok (.getfield 22, 3) := by decide +kernel
theorem e80_33 {d : Nat} {l0 l1 l2 l3 : Option Value} {s0 : Nat} {σ : ab_St} {Q : Option Value → ab_St → Prop} : Ev d 80 33 [l0, l1, l2, l3] [.ref s0] σ Q = (ab_k s0 = 8 ∧ Ev d 80 36 [l0, l1, l2, l3] [.ref (ab_r s0 2)] σ Q) := ev_Hc (c := ab_k s0 = 8) d80_33 rfl rfl rfl rfl rfl rfl rfl rfl
theorem d80_36 : decode (ab_C 80) 36 = .ok (.iload_n 3, 1) := by decide +kernel
theorem e80_36 {d : Nat} {l0 l1 l2 : Option Value} {x : Int32} {s0 : Nat} {σ : ab_St} {Q : Option Value → ab_St → Prop} : Ev d 80 36 [l0, l1, l2, some (.int x)] [.ref s0] σ Q = Ev d 80 37 [l0, l1, l2, some (.int x)] [.int x, .ref s0] σ Q := ev_A1 d80_36 rfl
theorem d80_37 : decode (ab_C 80) 37 = .ok (.aload_n 0, 1) := by decide +kernel
theorem e80_37 {d : Nat} {l1 l2 l3 : Option Value} {x : Nat} {s0 : Int32} {s1 : Nat} {σ : ab_St} {Q : Option Value → ab_St → Prop} : Ev d 80 37 [some (.ref x), l1, l2, l3] [.int s0, .ref s1] σ Q = Ev d 80 38 [some (.ref x), l1, l2, l3] [.ref x, .int s0, .ref s1] σ Q := ev_A1 d80_37 rfl
theorem d80_38 : decode (ab_C 80) 38 = .ok (.aload_n 1, 1) := by decide +kernel
theorem e80_38 {d : Nat} {l0 l2 l3 : Option Value} {x : Nat} {s0 : Nat} {s1 : Int32} {s2 : Nat} {σ : ab_St} {Q : Option Value → ab_St → Prop} : Ev d 80 38 [l0, some (.ref x), l2, l3] [.ref s0, .int s1, .ref s2] σ Q = Ev d 80 39 [l0, some (.ref x), l2, l3] [.ref x, .ref s0, .int s1, .ref s2] σ Q := ev_A1 d80_38 rfl
theorem d80_39 : decode (ab_C 80) 39 = .ok (.iload_n 3, 1) := by decide +kernel
theorem e80_39 {d : Nat} {l0 l1 l2 : Option Value} {x : Int32} {s0 : Nat} {s1 : Nat} {s2 : Int32} {s3 : Nat} {σ : ab_St} {Q : Option Value → ab_St → Prop} : Ev d 80 39 [l0, l1, l2, some (.int x)] [.ref s0, .ref s1, .int s2, .ref s3] σ Q = Ev d 80 40 [l0, l1, l2, some (.int x)] [.int x, .ref s0, .ref s1, .int s2, .ref s3] σ Q := ev_A1 d80_39 rfl
theorem d80_40 : decode (ab_C 80) 40 = .ok (.invokevirtual 40, 3) := by decide +kernel
theorem e80_40 {d : Nat} {l0 l1 l2 l3 : Option Value} {s0 : Int32} {s1 : Nat} {s2 : Nat} {s3 : Int32} {s4 : Nat} {σ : ab_St} {Q : Option Value → ab_St → Prop} : Ev (d + 1) 80 40 [l0, l1, l2, l3] [.int s0, .ref s1, .ref s2, .int s3, .ref s4] σ Q = (ab_k s2 = 8 ∧ Ev d 83 0 [some (.ref s2), some (.ref s1), some (.int s0), none, none] [] σ (fun r σ2 => Ev (d + 1) 80 43 [l0, l1, l2, l3] (r.toList ++ [.int s3, .ref s4]) σ2 Q)) := ev_KV (b := s2) (ls := [l0, l1, l2, l3]) (st := [.int s0, .ref s1, .ref s2, .int s3, .ref s4]) (as := [.ref s1, .int s0]) (rest := [.int s3, .ref s4]) d80_40 rfl rfl rfl (Nat.le_of_ble_eq_true rfl) (Nat.le_of_ble_eq_true rfl) (Nat.le_of_ble_eq_true rfl) rfl rfl rfl rfl rfl rfl rfl
theorem d80_43 : decode (ab_C 80) 43 = .ok (.iastore, 1) := by decide +kernel
theorem e80_43 {d : Nat} {l0 l1 l2 l3 : Option Value} {s0 : Int32} {s1 : Int32} {s2 : Nat} {σ : ab_St} {Q : Option Value → ab_St → Prop} : Ev d 80 43 [l0, l1, l2, l3] [.int s0, .int s1, .ref s2] σ Q = ((ab_k s2 = 100 ∧ ab_in s1 (ab_n s2)) ∧ Ev d 80 44 [l0, l1, l2, l3] [] (ab_wI σ s2 (upd (σ.1 s2) s1.toNatClampNeg s0)) Q) := ev_Hc (c := ab_k s2 = 100 ∧ ab_in s1 (ab_n s2)) d80_43 rfl rfl rfl rfl rfl rfl rfl rfl
theorem d80_44 : decode (ab_C 80) 44 = .ok (.iinc 3 (-1), 3) := by decide +kernel
theorem e80_44 {d : Nat} {l0 l1 l2 : Option Value} {x : Int32} {σ : ab_St} {Q : Option Value → ab_St → Prop} : Ev d 80 44 [l0, l1, l2, some (.int x)] [] σ Q = Ev d 80 47 [l0, l1, l2, some (.int (x + (-1)))] [] σ Q := ev_S d80_44 rfl rfl rfl rfl
theorem d80_47 : decode (ab_C 80) 47 = .ok (.goto (-32), 3) := by decide +kernel
theorem e80_47 {d : Nat} {l0 l1 l2 l3 : Option Value} {σ : ab_St} {Q : Option Value → ab_St → Prop} : Ev d 80 47 [l0, l1, l2, l3] [] σ Q = Ev d 80 15 [l0, l1, l2, l3] [] σ Q := ev_J d80_47 rfl rfl rfl rfl rfl
theorem d80_50 : decode (ab_C 80) 50 = .ok (.aload_n 0, 1) := by decide +kernel
theorem e80_50 {d : Nat} {l1 l2 l3 : Option Value} {x : Nat} {σ : ab_St} {Q : Option Value → ab_St → Prop} : Ev d 80 50 [some (.ref x), l1, l2, l3] [] σ Q = Ev d 80 51 [some (.ref x), l1, l2, l3] [.ref x] σ Q := ev_A1 d80_50 rfl
theorem d80_51 : decode (ab_C 80) 51 = .ok (.getfield 22, 3) := by decide +kernel
theorem e80_51 {d : Nat} {l0 l1 l2 l3 : Option Value} {s0 : Nat} {σ : ab_St} {Q : Option Value → ab_St → Prop} : Ev d 80 51 [l0, l1, l2, l3] [.ref s0] σ Q = (ab_k s0 = 8 ∧ Ev d 80 54 [l0, l1, l2, l3] [.ref (ab_r s0 2)] σ Q) := ev_Hc (c := ab_k s0 = 8) d80_51 rfl rfl rfl rfl rfl rfl rfl rfl
theorem d80_54 : decode (ab_C 80) 54 = .ok (.aload_n 2, 1) := by decide +kernel
theorem e80_54 {d : Nat} {l0 l1 l3 : Option Value} {x : Nat} {s0 : Nat} {σ : ab_St} {Q : Option Value → ab_St → Prop} : Ev d 80 54 [l0, l1, some (.ref x), l3] [.ref s0] σ Q = Ev d 80 55 [l0, l1, some (.ref x), l3] [.ref x, .ref s0] σ Q := ev_A1 d80_54 rfl
theorem d80_55 : decode (ab_C 80) 55 = .ok (.getfield 35, 3) := by decide +kernel
theorem e80_55 {d : Nat} {l0 l1 l2 l3 : Option Value} {s0 : Nat} {s1 : Nat} {σ : ab_St} {Q : Option Value → ab_St → Prop} : Ev d 80 55 [l0, l1, l2, l3] [.ref s0, .ref s1] σ Q = (ab_k s0 = 4 ∧ Ev d 80 58 [l0, l1, l2, l3] [.int (σ.1 s0 2), .ref s1] σ Q) := ev_Hc (c := ab_k s0 = 4) d80_55 rfl rfl rfl rfl rfl rfl rfl rfl
theorem d80_58 : decode (ab_C 80) 58 = .ok (.iaload, 1) := by decide +kernel
theorem e80_58 {d : Nat} {l0 l1 l2 l3 : Option Value} {s0 : Int32} {s1 : Nat} {σ : ab_St} {Q : Option Value → ab_St → Prop} : Ev d 80 58 [l0, l1, l2, l3] [.int s0, .ref s1] σ Q = ((ab_k s1 = 100 ∧ ab_in s0 (ab_n s1)) ∧ Ev d 80 59 [l0, l1, l2, l3] [.int (σ.1 s1 s0.toNatClampNeg)] σ Q) := ev_Hc (c := ab_k s1 = 100 ∧ ab_in s0 (ab_n s1)) d80_58 rfl rfl rfl rfl rfl rfl rfl rfl
theorem d80_59 : decode (ab_C 80) 59 = .ok (.ireturn, 1) := by decide +kernel
theorem e80_59 {d : Nat} {l0 l1 l2 l3 : Option Value} {s0 : Int32} {σ : ab_St} {Q : Option Value → ab_St → Prop} : Ev d 80 59 [l0, l1, l2, l3] [.int s0] σ Q = Q (some (.int s0)) σ := ev_E d80_59 rfl rfl rfl rfl rfl rfl rfl
/-! SaidLeast$Contest.spread(LSaidLeast$Told;LSaidLeast$State;)V -/
theorem d81_0 : decode (ab_C 81) 0 = .ok (.aload_n 0, 1) := by decide +kernel
theorem e81_0 {d : Nat} {l1 l2 l3 : Option Value} {x : Nat} {σ : ab_St} {Q : Option Value → ab_St → Prop} : Ev d 81 0 [some (.ref x), l1, l2, l3] [] σ Q = Ev d 81 1 [some (.ref x), l1, l2, l3] [.ref x] σ Q := ev_A1 d81_0 rfl
theorem d81_1 : decode (ab_C 81) 1 = .ok (.getfield 18, 3) := by decide +kernel
theorem e81_1 {d : Nat} {l0 l1 l2 l3 : Option Value} {s0 : Nat} {σ : ab_St} {Q : Option Value → ab_St → Prop} : Ev d 81 1 [l0, l1, l2, l3] [.ref s0] σ Q = (ab_k s0 = 8 ∧ Ev d 81 4 [l0, l1, l2, l3] [.ref (ab_r s0 1)] σ Q) := ev_Hc (c := ab_k s0 = 8) d81_1 rfl rfl rfl rfl rfl rfl rfl rfl
theorem d81_4 : decode (ab_C 81) 4 = .ok (.iconst 0, 1) := by decide +kernel
theorem e81_4 {d : Nat} {l0 l1 l2 l3 : Option Value} {s0 : Nat} {σ : ab_St} {Q : Option Value → ab_St → Prop} : Ev d 81 4 [l0, l1, l2, l3] [.ref s0] σ Q = Ev d 81 5 [l0, l1, l2, l3] [.int 0, .ref s0] σ Q := ev_A1 d81_4 rfl
theorem d81_5 : decode (ab_C 81) 5 = .ok (.invokestatic 44, 3) := by decide +kernel
theorem e81_5 {d : Nat} {l0 l1 l2 l3 : Option Value} {s0 : Int32} {s1 : Nat} {σ : ab_St} {Q : Option Value → ab_St → Prop} : Ev (d + 1) 81 5 [l0, l1, l2, l3] [.int s0, .ref s1] σ Q = Ev d 17 0 [some (.ref s1), some (.int s0), none, none] [] σ (fun r σ2 => Ev (d + 1) 81 8 [l0, l1, l2, l3] (r.toList ++ []) σ2 Q) := ev_K0 (y := 17) (ls := [l0, l1, l2, l3]) (st := [.int s0, .ref s1]) (as := [.ref s1, .int s0]) (rest := []) d81_5 rfl rfl rfl rfl rfl rfl rfl rfl
theorem d81_8 : decode (ab_C 81) 8 = .ok (.aload_n 0, 1) := by decide +kernel
theorem e81_8 {d : Nat} {l1 l2 l3 : Option Value} {x : Nat} {σ : ab_St} {Q : Option Value → ab_St → Prop} : Ev d 81 8 [some (.ref x), l1, l2, l3] [] σ Q = Ev d 81 9 [some (.ref x), l1, l2, l3] [.ref x] σ Q := ev_A1 d81_8 rfl
theorem d81_9 : decode (ab_C 81) 9 = .ok (.getfield 18, 3) := by decide +kernel
theorem e81_9 {d : Nat} {l0 l1 l2 l3 : Option Value} {s0 : Nat} {σ : ab_St} {Q : Option Value → ab_St → Prop} : Ev d 81 9 [l0, l1, l2, l3] [.ref s0] σ Q = (ab_k s0 = 8 ∧ Ev d 81 12 [l0, l1, l2, l3] [.ref (ab_r s0 1)] σ Q) := ev_Hc (c := ab_k s0 = 8) d81_9 rfl rfl rfl rfl rfl rfl rfl rfl
theorem d81_12 : decode (ab_C 81) 12 = .ok (.aload_n 2, 1) := by decide +kernel
theorem e81_12 {d : Nat} {l0 l1 l3 : Option Value} {x : Nat} {s0 : Nat} {σ : ab_St} {Q : Option Value → ab_St → Prop} : Ev d 81 12 [l0, l1, some (.ref x), l3] [.ref s0] σ Q = Ev d 81 13 [l0, l1, some (.ref x), l3] [.ref x, .ref s0] σ Q := ev_A1 d81_12 rfl
theorem d81_13 : decode (ab_C 81) 13 = .ok (.getfield 35, 3) := by decide +kernel
theorem e81_13 {d : Nat} {l0 l1 l2 l3 : Option Value} {s0 : Nat} {s1 : Nat} {σ : ab_St} {Q : Option Value → ab_St → Prop} : Ev d 81 13 [l0, l1, l2, l3] [.ref s0, .ref s1] σ Q = (ab_k s0 = 4 ∧ Ev d 81 16 [l0, l1, l2, l3] [.int (σ.1 s0 2), .ref s1] σ Q) := ev_Hc (c := ab_k s0 = 4) d81_13 rfl rfl rfl rfl rfl rfl rfl rfl
theorem d81_16 : decode (ab_C 81) 16 = .ok (.bipush 64, 2) := by decide +kernel
theorem e81_16 {d : Nat} {l0 l1 l2 l3 : Option Value} {s0 : Int32} {s1 : Nat} {σ : ab_St} {Q : Option Value → ab_St → Prop} : Ev d 81 16 [l0, l1, l2, l3] [.int s0, .ref s1] σ Q = Ev d 81 18 [l0, l1, l2, l3] [.int 64, .int s0, .ref s1] σ Q := ev_A1 d81_16 rfl
theorem d81_18 : decode (ab_C 81) 18 = .ok (.iastore, 1) := by decide +kernel
theorem e81_18 {d : Nat} {l0 l1 l2 l3 : Option Value} {s0 : Int32} {s1 : Int32} {s2 : Nat} {σ : ab_St} {Q : Option Value → ab_St → Prop} : Ev d 81 18 [l0, l1, l2, l3] [.int s0, .int s1, .ref s2] σ Q = ((ab_k s2 = 100 ∧ ab_in s1 (ab_n s2)) ∧ Ev d 81 19 [l0, l1, l2, l3] [] (ab_wI σ s2 (upd (σ.1 s2) s1.toNatClampNeg s0)) Q) := ev_Hc (c := ab_k s2 = 100 ∧ ab_in s1 (ab_n s2)) d81_18 rfl rfl rfl rfl rfl rfl rfl rfl
theorem d81_19 : decode (ab_C 81) 19 = .ok (.aload_n 2, 1) := by decide +kernel
theorem e81_19 {d : Nat} {l0 l1 l3 : Option Value} {x : Nat} {σ : ab_St} {Q : Option Value → ab_St → Prop} : Ev d 81 19 [l0, l1, some (.ref x), l3] [] σ Q = Ev d 81 20 [l0, l1, some (.ref x), l3] [.ref x] σ Q := ev_A1 d81_19 rfl
theorem d81_20 : decode (ab_C 81) 20 = .ok (.getfield 35, 3) := by decide +kernel
theorem e81_20 {d : Nat} {l0 l1 l2 l3 : Option Value} {s0 : Nat} {σ : ab_St} {Q : Option Value → ab_St → Prop} : Ev d 81 20 [l0, l1, l2, l3] [.ref s0] σ Q = (ab_k s0 = 4 ∧ Ev d 81 23 [l0, l1, l2, l3] [.int (σ.1 s0 2)] σ Q) := ev_Hc (c := ab_k s0 = 4) d81_20 rfl rfl rfl rfl rfl rfl rfl rfl
theorem d81_23 : decode (ab_C 81) 23 = .ok (.istore_n 3, 1) := by decide +kernel
theorem e81_23 {d : Nat} {l0 l1 l2 l3 : Option Value} {s0 : Int32} {σ : ab_St} {Q : Option Value → ab_St → Prop} : Ev d 81 23 [l0, l1, l2, l3] [.int s0] σ Q = Ev d 81 24 [l0, l1, l2, some (.int s0)] [] σ Q := ev_S d81_23 rfl rfl rfl rfl
theorem d81_24 : decode (ab_C 81) 24 = .ok (.iload_n 3, 1) := by decide +kernel
theorem e81_24 {d : Nat} {l0 l1 l2 : Option Value} {x : Int32} {σ : ab_St} {Q : Option Value → ab_St → Prop} : Ev d 81 24 [l0, l1, l2, some (.int x)] [] σ Q = Ev d 81 25 [l0, l1, l2, some (.int x)] [.int x] σ Q := ev_A1 d81_24 rfl
theorem d81_25 : decode (ab_C 81) 25 = .ok (.iconst 1, 1) := by decide +kernel
theorem e81_25 {d : Nat} {l0 l1 l2 l3 : Option Value} {s0 : Int32} {σ : ab_St} {Q : Option Value → ab_St → Prop} : Ev d 81 25 [l0, l1, l2, l3] [.int s0] σ Q = Ev d 81 26 [l0, l1, l2, l3] [.int 1, .int s0] σ Q := ev_A1 d81_25 rfl
theorem d81_26 : decode (ab_C 81) 26 = .ok (.aload_n 1, 1) := by decide +kernel
theorem e81_26 {d : Nat} {l0 l2 l3 : Option Value} {x : Nat} {s0 : Int32} {s1 : Int32} {σ : ab_St} {Q : Option Value → ab_St → Prop} : Ev d 81 26 [l0, some (.ref x), l2, l3] [.int s0, .int s1] σ Q = Ev d 81 27 [l0, some (.ref x), l2, l3] [.ref x, .int s0, .int s1] σ Q := ev_A1 d81_26 rfl
theorem d81_27 : decode (ab_C 81) 27 = .ok (.getfield 29, 3) := by decide +kernel
theorem e81_27 {d : Nat} {l0 l1 l2 l3 : Option Value} {s0 : Nat} {s1 : Int32} {s2 : Int32} {σ : ab_St} {Q : Option Value → ab_St → Prop} : Ev d 81 27 [l0, l1, l2, l3] [.ref s0, .int s1, .int s2] σ Q = (ab_k s0 = 3 ∧ Ev d 81 30 [l0, l1, l2, l3] [.int (σ.1 s0 5), .int s1, .int s2] σ Q) := ev_Hc (c := ab_k s0 = 3) d81_27 rfl rfl rfl rfl rfl rfl rfl rfl
theorem d81_30 : decode (ab_C 81) 30 = .ok (.ishl, 1) := by decide +kernel
theorem e81_30 {d : Nat} {l0 l1 l2 l3 : Option Value} {s0 : Int32} {s1 : Int32} {s2 : Int32} {σ : ab_St} {Q : Option Value → ab_St → Prop} : Ev d 81 30 [l0, l1, l2, l3] [.int s0, .int s1, .int s2] σ Q = Ev d 81 31 [l0, l1, l2, l3] [.int (s1 <<< (s0 &&& 31)), .int s2] σ Q := ev_A2 d81_30 rfl rfl
theorem d81_31 : decode (ab_C 81) 31 = .ok (.if_icmp .ge 43, 3) := by decide +kernel
theorem e81_31 {d : Nat} {l0 l1 l2 l3 : Option Value} {s0 : Int32} {s1 : Int32} {σ : ab_St} {Q : Option Value → ab_St → Prop} : Ev d 81 31 [l0, l1, l2, l3] [.int s0, .int s1] σ Q = if s0 ≤ s1 then Ev d 81 74 [l0, l1, l2, l3] [] σ Q else Ev d 81 34 [l0, l1, l2, l3] [] σ Q := ev_B (c := s0 ≤ s1) d81_31 rfl rfl rfl rfl rfl
theorem d81_34 : decode (ab_C 81) 34 = .ok (.aload_n 0, 1) := by decide +kernel
theorem e81_34 {d : Nat} {l1 l2 l3 : Option Value} {x : Nat} {σ : ab_St} {Q : Option Value → ab_St → Prop} : Ev d 81 34 [some (.ref x), l1, l2, l3] [] σ Q = Ev d 81 35 [some (.ref x), l1, l2, l3] [.ref x] σ Q := ev_A1 d81_34 rfl
theorem d81_35 : decode (ab_C 81) 35 = .ok (.getfield 18, 3) := by decide +kernel
theorem e81_35 {d : Nat} {l0 l1 l2 l3 : Option Value} {s0 : Nat} {σ : ab_St} {Q : Option Value → ab_St → Prop} : Ev d 81 35 [l0, l1, l2, l3] [.ref s0] σ Q = (ab_k s0 = 8 ∧ Ev d 81 38 [l0, l1, l2, l3] [.ref (ab_r s0 1)] σ Q) := ev_Hc (c := ab_k s0 = 8) d81_35 rfl rfl rfl rfl rfl rfl rfl rfl
theorem d81_38 : decode (ab_C 81) 38 = .ok (.iload_n 3, 1) := by decide +kernel
theorem e81_38 {d : Nat} {l0 l1 l2 : Option Value} {x : Int32} {s0 : Nat} {σ : ab_St} {Q : Option Value → ab_St → Prop} : Ev d 81 38 [l0, l1, l2, some (.int x)] [.ref s0] σ Q = Ev d 81 39 [l0, l1, l2, some (.int x)] [.int x, .ref s0] σ Q := ev_A1 d81_38 rfl
theorem d81_39 : decode (ab_C 81) 39 = .ok (.iaload, 1) := by decide +kernel
theorem e81_39 {d : Nat} {l0 l1 l2 l3 : Option Value} {s0 : Int32} {s1 : Nat} {σ : ab_St} {Q : Option Value → ab_St → Prop} : Ev d 81 39 [l0, l1, l2, l3] [.int s0, .ref s1] σ Q = ((ab_k s1 = 100 ∧ ab_in s0 (ab_n s1)) ∧ Ev d 81 40 [l0, l1, l2, l3] [.int (σ.1 s1 s0.toNatClampNeg)] σ Q) := ev_Hc (c := ab_k s1 = 100 ∧ ab_in s0 (ab_n s1)) d81_39 rfl rfl rfl rfl rfl rfl rfl rfl
theorem d81_40 : decode (ab_C 81) 40 = .ok (.ifCond .eq 28, 3) := by decide +kernel
theorem e81_40 {d : Nat} {l0 l1 l2 l3 : Option Value} {s0 : Int32} {σ : ab_St} {Q : Option Value → ab_St → Prop} : Ev d 81 40 [l0, l1, l2, l3] [.int s0] σ Q = if s0 = 0 then Ev d 81 68 [l0, l1, l2, l3] [] σ Q else Ev d 81 43 [l0, l1, l2, l3] [] σ Q := ev_B (c := s0 = 0) d81_40 rfl rfl rfl rfl rfl
theorem d81_43 : decode (ab_C 81) 43 = .ok (.aload_n 0, 1) := by decide +kernel
theorem e81_43 {d : Nat} {l1 l2 l3 : Option Value} {x : Nat} {σ : ab_St} {Q : Option Value → ab_St → Prop} : Ev d 81 43 [some (.ref x), l1, l2, l3] [] σ Q = Ev d 81 44 [some (.ref x), l1, l2, l3] [.ref x] σ Q := ev_A1 d81_43 rfl
theorem d81_44 : decode (ab_C 81) 44 = .ok (.getfield 18, 3) := by decide +kernel
theorem e81_44 {d : Nat} {l0 l1 l2 l3 : Option Value} {s0 : Nat} {σ : ab_St} {Q : Option Value → ab_St → Prop} : Ev d 81 44 [l0, l1, l2, l3] [.ref s0] σ Q = (ab_k s0 = 8 ∧ Ev d 81 47 [l0, l1, l2, l3] [.ref (ab_r s0 1)] σ Q) := ev_Hc (c := ab_k s0 = 8) d81_44 rfl rfl rfl rfl rfl rfl rfl rfl
theorem d81_47 : decode (ab_C 81) 47 = .ok (.iload_n 3, 1) := by decide +kernel
theorem e81_47 {d : Nat} {l0 l1 l2 : Option Value} {x : Int32} {s0 : Nat} {σ : ab_St} {Q : Option Value → ab_St → Prop} : Ev d 81 47 [l0, l1, l2, some (.int x)] [.ref s0] σ Q = Ev d 81 48 [l0, l1, l2, some (.int x)] [.int x, .ref s0] σ Q := ev_A1 d81_47 rfl
theorem d81_48 : decode (ab_C 81) 48 = .ok (.dup2, 1) := by decide +kernel
theorem e81_48 {d : Nat} {l0 l1 l2 l3 : Option Value} {s0 : Int32} {s1 : Nat} {σ : ab_St} {Q : Option Value → ab_St → Prop} : Ev d 81 48 [l0, l1, l2, l3] [.int s0, .ref s1] σ Q = Ev d 81 49 [l0, l1, l2, l3] [.int s0, .ref s1, .int s0, .ref s1] σ Q := ev_A1 d81_48 rfl
theorem d81_49 : decode (ab_C 81) 49 = .ok (.iaload, 1) := by decide +kernel
theorem e81_49 {d : Nat} {l0 l1 l2 l3 : Option Value} {s0 : Int32} {s1 : Nat} {s2 : Int32} {s3 : Nat} {σ : ab_St} {Q : Option Value → ab_St → Prop} : Ev d 81 49 [l0, l1, l2, l3] [.int s0, .ref s1, .int s2, .ref s3] σ Q = ((ab_k s1 = 100 ∧ ab_in s0 (ab_n s1)) ∧ Ev d 81 50 [l0, l1, l2, l3] [.int (σ.1 s1 s0.toNatClampNeg), .int s2, .ref s3] σ Q) := ev_Hc (c := ab_k s1 = 100 ∧ ab_in s0 (ab_n s1)) d81_49 rfl rfl rfl rfl rfl rfl rfl rfl
theorem d81_50 : decode (ab_C 81) 50 = .ok (.aload_n 0, 1) := by decide +kernel
theorem e81_50 {d : Nat} {l1 l2 l3 : Option Value} {x : Nat} {s0 : Int32} {s1 : Int32} {s2 : Nat} {σ : ab_St} {Q : Option Value → ab_St → Prop} : Ev d 81 50 [some (.ref x), l1, l2, l3] [.int s0, .int s1, .ref s2] σ Q = Ev d 81 51 [some (.ref x), l1, l2, l3] [.ref x, .int s0, .int s1, .ref s2] σ Q := ev_A1 d81_50 rfl
theorem d81_51 : decode (ab_C 81) 51 = .ok (.getfield 12, 3) := by decide +kernel
theorem e81_51 {d : Nat} {l0 l1 l2 l3 : Option Value} {s0 : Nat} {s1 : Int32} {s2 : Int32} {s3 : Nat} {σ : ab_St} {Q : Option Value → ab_St → Prop} : Ev d 81 51 [l0, l1, l2, l3] [.ref s0, .int s1, .int s2, .ref s3] σ Q = (ab_k s0 = 8 ∧ Ev d 81 54 [l0, l1, l2, l3] [.ref (ab_r s0 0), .int s1, .int s2, .ref s3] σ Q) := ev_Hc (c := ab_k s0 = 8) d81_51 rfl rfl rfl rfl rfl rfl rfl rfl
theorem d81_54 : decode (ab_C 81) 54 = .ok (.aload_n 1, 1) := by decide +kernel
theorem e81_54 {d : Nat} {l0 l2 l3 : Option Value} {x : Nat} {s0 : Nat} {s1 : Int32} {s2 : Int32} {s3 : Nat} {σ : ab_St} {Q : Option Value → ab_St → Prop} : Ev d 81 54 [l0, some (.ref x), l2, l3] [.ref s0, .int s1, .int s2, .ref s3] σ Q = Ev d 81 55 [l0, some (.ref x), l2, l3] [.ref x, .ref s0, .int s1, .int s2, .ref s3] σ Q := ev_A1 d81_54 rfl
theorem d81_55 : decode (ab_C 81) 55 = .ok (.aload_n 2, 1) := by decide +kernel
theorem e81_55 {d : Nat} {l0 l1 l3 : Option Value} {x : Nat} {s0 : Nat} {s1 : Nat} {s2 : Int32} {s3 : Int32} {s4 : Nat} {σ : ab_St} {Q : Option Value → ab_St → Prop} : Ev d 81 55 [l0, l1, some (.ref x), l3] [.ref s0, .ref s1, .int s2, .int s3, .ref s4] σ Q = Ev d 81 56 [l0, l1, some (.ref x), l3] [.ref x, .ref s0, .ref s1, .int s2, .int s3, .ref s4] σ Q := ev_A1 d81_55 rfl
theorem d81_56 : decode (ab_C 81) 56 = .ok (.iload_n 3, 1) := by decide +kernel
theorem e81_56 {d : Nat} {l0 l1 l2 : Option Value} {x : Int32} {s0 : Nat} {s1 : Nat} {s2 : Nat} {s3 : Int32} {s4 : Int32} {s5 : Nat} {σ : ab_St} {Q : Option Value → ab_St → Prop} : Ev d 81 56 [l0, l1, l2, some (.int x)] [.ref s0, .ref s1, .ref s2, .int s3, .int s4, .ref s5] σ Q = Ev d 81 57 [l0, l1, l2, some (.int x)] [.int x, .ref s0, .ref s1, .ref s2, .int s3, .int s4, .ref s5] σ Q := ev_A1 d81_56 rfl
theorem d81_57 : decode (ab_C 81) 57 = .ok (.invokevirtual 50, 3) := by decide +kernel
theorem e81_57 {d : Nat} {l0 l1 l2 l3 : Option Value} {s0 : Int32} {s1 : Nat} {s2 : Nat} {s3 : Nat} {s4 : Int32} {s5 : Int32} {s6 : Nat} {σ : ab_St} {Q : Option Value → ab_St → Prop} : Ev (d + 1) 81 57 [l0, l1, l2, l3] [.int s0, .ref s1, .ref s2, .ref s3, .int s4, .int s5, .ref s6] σ Q = (ab_k s3 = 7 ∧ Ev d 66 0 [some (.ref s3), some (.ref s2), some (.ref s1), some (.int s0), none] [] σ (fun r σ2 => Ev (d + 1) 81 60 [l0, l1, l2, l3] (r.toList ++ [.int s4, .int s5, .ref s6]) σ2 Q)) := ev_KV (b := s3) (ls := [l0, l1, l2, l3]) (st := [.int s0, .ref s1, .ref s2, .ref s3, .int s4, .int s5, .ref s6]) (as := [.ref s2, .ref s1, .int s0]) (rest := [.int s4, .int s5, .ref s6]) d81_57 rfl rfl rfl (Nat.le_of_ble_eq_true rfl) (Nat.le_of_ble_eq_true rfl) (Nat.le_of_ble_eq_true rfl) rfl rfl rfl rfl rfl rfl rfl
theorem d81_60 : decode (ab_C 81) 60 = .ok (.ior, 1) := by decide +kernel
theorem e81_60 {d : Nat} {l0 l1 l2 l3 : Option Value} {s0 : Int32} {s1 : Int32} {s2 : Int32} {s3 : Nat} {σ : ab_St} {Q : Option Value → ab_St → Prop} : Ev d 81 60 [l0, l1, l2, l3] [.int s0, .int s1, .int s2, .ref s3] σ Q = Ev d 81 61 [l0, l1, l2, l3] [.int (s1 ||| s0), .int s2, .ref s3] σ Q := ev_A2 d81_60 rfl rfl
theorem d81_61 : decode (ab_C 81) 61 = .ok (.iastore, 1) := by decide +kernel
theorem e81_61 {d : Nat} {l0 l1 l2 l3 : Option Value} {s0 : Int32} {s1 : Int32} {s2 : Nat} {σ : ab_St} {Q : Option Value → ab_St → Prop} : Ev d 81 61 [l0, l1, l2, l3] [.int s0, .int s1, .ref s2] σ Q = ((ab_k s2 = 100 ∧ ab_in s1 (ab_n s2)) ∧ Ev d 81 62 [l0, l1, l2, l3] [] (ab_wI σ s2 (upd (σ.1 s2) s1.toNatClampNeg s0)) Q) := ev_Hc (c := ab_k s2 = 100 ∧ ab_in s1 (ab_n s2)) d81_61 rfl rfl rfl rfl rfl rfl rfl rfl
theorem d81_62 : decode (ab_C 81) 62 = .ok (.aload_n 0, 1) := by decide +kernel
theorem e81_62 {d : Nat} {l1 l2 l3 : Option Value} {x : Nat} {σ : ab_St} {Q : Option Value → ab_St → Prop} : Ev d 81 62 [some (.ref x), l1, l2, l3] [] σ Q = Ev d 81 63 [some (.ref x), l1, l2, l3] [.ref x] σ Q := ev_A1 d81_62 rfl
theorem d81_63 : decode (ab_C 81) 63 = .ok (.aload_n 1, 1) := by decide +kernel
theorem e81_63 {d : Nat} {l0 l2 l3 : Option Value} {x : Nat} {s0 : Nat} {σ : ab_St} {Q : Option Value → ab_St → Prop} : Ev d 81 63 [l0, some (.ref x), l2, l3] [.ref s0] σ Q = Ev d 81 64 [l0, some (.ref x), l2, l3] [.ref x, .ref s0] σ Q := ev_A1 d81_63 rfl
theorem d81_64 : decode (ab_C 81) 64 = .ok (.iload_n 3, 1) := by decide +kernel
theorem e81_64 {d : Nat} {l0 l1 l2 : Option Value} {x : Int32} {s0 : Nat} {s1 : Nat} {σ : ab_St} {Q : Option Value → ab_St → Prop} : Ev d 81 64 [l0, l1, l2, some (.int x)] [.ref s0, .ref s1] σ Q = Ev d 81 65 [l0, l1, l2, some (.int x)] [.int x, .ref s0, .ref s1] σ Q := ev_A1 d81_64 rfl
theorem d81_65 : decode (ab_C 81) 65 = .ok (.invokevirtual 54, 3) := by decide +kernel
theorem e81_65 {d : Nat} {l0 l1 l2 l3 : Option Value} {s0 : Int32} {s1 : Nat} {s2 : Nat} {σ : ab_St} {Q : Option Value → ab_St → Prop} : Ev (d + 1) 81 65 [l0, l1, l2, l3] [.int s0, .ref s1, .ref s2] σ Q = (ab_k s2 = 8 ∧ Ev d 82 0 [some (.ref s2), some (.ref s1), some (.int s0), none] [] σ (fun r σ2 => Ev (d + 1) 81 68 [l0, l1, l2, l3] (r.toList ++ []) σ2 Q)) := ev_KV (b := s2) (ls := [l0, l1, l2, l3]) (st := [.int s0, .ref s1, .ref s2]) (as := [.ref s1, .int s0]) (rest := []) d81_65 rfl rfl rfl (Nat.le_of_ble_eq_true rfl) (Nat.le_of_ble_eq_true rfl) (Nat.le_of_ble_eq_true rfl) rfl rfl rfl rfl rfl rfl rfl
theorem d81_68 : decode (ab_C 81) 68 = .ok (.iinc 3 1, 3) := by decide +kernel
theorem e81_68 {d : Nat} {l0 l1 l2 : Option Value} {x : Int32} {σ : ab_St} {Q : Option Value → ab_St → Prop} : Ev d 81 68 [l0, l1, l2, some (.int x)] [] σ Q = Ev d 81 71 [l0, l1, l2, some (.int (x + 1))] [] σ Q := ev_S d81_68 rfl rfl rfl rfl
theorem d81_71 : decode (ab_C 81) 71 = .ok (.goto (-47), 3) := by decide +kernel
theorem e81_71 {d : Nat} {l0 l1 l2 l3 : Option Value} {σ : ab_St} {Q : Option Value → ab_St → Prop} : Ev d 81 71 [l0, l1, l2, l3] [] σ Q = Ev d 81 24 [l0, l1, l2, l3] [] σ Q := ev_J d81_71 rfl rfl rfl rfl rfl
theorem d81_74 : decode (ab_C 81) 74 = .ok (.return_, 1) := by decide +kernel
theorem e81_74 {d : Nat} {l0 l1 l2 l3 : Option Value} {σ : ab_St} {Q : Option Value → ab_St → Prop} : Ev d 81 74 [l0, l1, l2, l3] [] σ Q = Q none σ := ev_E d81_74 rfl rfl rfl rfl rfl rfl rfl
/-! SaidLeast$Contest.goOnFrom(LSaidLeast$Told;I)V -/
theorem d82_0 : decode (ab_C 82) 0 = .ok (.iconst 0, 1) := by decide +kernel
theorem e82_0 {d : Nat} {l0 l1 l2 l3 : Option Value} {σ : ab_St} {Q : Option Value → ab_St → Prop} : Ev d 82 0 [l0, l1, l2, l3] [] σ Q = Ev d 82 1 [l0, l1, l2, l3] [.int 0] σ Q := ev_A1 d82_0 rfl
theorem d82_1 : decode (ab_C 82) 1 = .ok (.istore_n 3, 1) := by decide +kernel
theorem e82_1 {d : Nat} {l0 l1 l2 l3 : Option Value} {s0 : Int32} {σ : ab_St} {Q : Option Value → ab_St → Prop} : Ev d 82 1 [l0, l1, l2, l3] [.int s0] σ Q = Ev d 82 2 [l0, l1, l2, some (.int s0)] [] σ Q := ev_S d82_1 rfl rfl rfl rfl
theorem d82_2 : decode (ab_C 82) 2 = .ok (.iload_n 3, 1) := by decide +kernel
theorem e82_2 {d : Nat} {l0 l1 l2 : Option Value} {x : Int32} {σ : ab_St} {Q : Option Value → ab_St → Prop} : Ev d 82 2 [l0, l1, l2, some (.int x)] [] σ Q = Ev d 82 3 [l0, l1, l2, some (.int x)] [.int x] σ Q := ev_A1 d82_2 rfl
theorem d82_3 : decode (ab_C 82) 3 = .ok (.aload_n 1, 1) := by decide +kernel
theorem e82_3 {d : Nat} {l0 l2 l3 : Option Value} {x : Nat} {s0 : Int32} {σ : ab_St} {Q : Option Value → ab_St → Prop} : Ev d 82 3 [l0, some (.ref x), l2, l3] [.int s0] σ Q = Ev d 82 4 [l0, some (.ref x), l2, l3] [.ref x, .int s0] σ Q := ev_A1 d82_3 rfl
theorem d82_4 : decode (ab_C 82) 4 = .ok (.getfield 29, 3) := by decide +kernel
theorem e82_4 {d : Nat} {l0 l1 l2 l3 : Option Value} {s0 : Nat} {s1 : Int32} {σ : ab_St} {Q : Option Value → ab_St → Prop} : Ev d 82 4 [l0, l1, l2, l3] [.ref s0, .int s1] σ Q = (ab_k s0 = 3 ∧ Ev d 82 7 [l0, l1, l2, l3] [.int (σ.1 s0 5), .int s1] σ Q) := ev_Hc (c := ab_k s0 = 3) d82_4 rfl rfl rfl rfl rfl rfl rfl rfl
theorem d82_7 : decode (ab_C 82) 7 = .ok (.if_icmp .ge 47, 3) := by decide +kernel
theorem e82_7 {d : Nat} {l0 l1 l2 l3 : Option Value} {s0 : Int32} {s1 : Int32} {σ : ab_St} {Q : Option Value → ab_St → Prop} : Ev d 82 7 [l0, l1, l2, l3] [.int s0, .int s1] σ Q = if s0 ≤ s1 then Ev d 82 54 [l0, l1, l2, l3] [] σ Q else Ev d 82 10 [l0, l1, l2, l3] [] σ Q := ev_B (c := s0 ≤ s1) d82_7 rfl rfl rfl rfl rfl
theorem d82_10 : decode (ab_C 82) 10 = .ok (.iload_n 2, 1) := by decide +kernel
theorem e82_10 {d : Nat} {l0 l1 l3 : Option Value} {x : Int32} {σ : ab_St} {Q : Option Value → ab_St → Prop} : Ev d 82 10 [l0, l1, some (.int x), l3] [] σ Q = Ev d 82 11 [l0, l1, some (.int x), l3] [.int x] σ Q := ev_A1 d82_10 rfl
theorem d82_11 : decode (ab_C 82) 11 = .ok (.iload_n 3, 1) := by decide +kernel
theorem e82_11 {d : Nat} {l0 l1 l2 : Option Value} {x : Int32} {s0 : Int32} {σ : ab_St} {Q : Option Value → ab_St → Prop} : Ev d 82 11 [l0, l1, l2, some (.int x)] [.int s0] σ Q = Ev d 82 12 [l0, l1, l2, some (.int x)] [.int x, .int s0] σ Q := ev_A1 d82_11 rfl
theorem d82_12 : decode (ab_C 82) 12 = .ok (.invokestatic 58, 3) := by decide +kernel
theorem e82_12 {d : Nat} {l0 l1 l2 l3 : Option Value} {s0 : Int32} {s1 : Int32} {σ : ab_St} {Q : Option Value → ab_St → Prop} : Ev (d + 1) 82 12 [l0, l1, l2, l3] [.int s0, .int s1] σ Q = Ev d 32 0 [some (.int s1), some (.int s0)] [] σ (fun r σ2 => Ev (d + 1) 82 15 [l0, l1, l2, l3] (r.toList ++ []) σ2 Q) := ev_K0 (y := 32) (ls := [l0, l1, l2, l3]) (st := [.int s0, .int s1]) (as := [.int s1, .int s0]) (rest := []) d82_12 rfl rfl rfl rfl rfl rfl rfl rfl
theorem d82_15 : decode (ab_C 82) 15 = .ok (.ifCond .ne 33, 3) := by decide +kernel
theorem e82_15 {d : Nat} {l0 l1 l2 l3 : Option Value} {s0 : Int32} {σ : ab_St} {Q : Option Value → ab_St → Prop} : Ev d 82 15 [l0, l1, l2, l3] [.int s0] σ Q = if s0 = 0 then Ev d 82 18 [l0, l1, l2, l3] [] σ Q else Ev d 82 48 [l0, l1, l2, l3] [] σ Q := ev_B (c := s0 = 0) d82_15 rfl rfl rfl rfl rfl
theorem d82_18 : decode (ab_C 82) 18 = .ok (.aload_n 0, 1) := by decide +kernel
theorem e82_18 {d : Nat} {l1 l2 l3 : Option Value} {x : Nat} {σ : ab_St} {Q : Option Value → ab_St → Prop} : Ev d 82 18 [some (.ref x), l1, l2, l3] [] σ Q = Ev d 82 19 [some (.ref x), l1, l2, l3] [.ref x] σ Q := ev_A1 d82_18 rfl
theorem d82_19 : decode (ab_C 82) 19 = .ok (.getfield 18, 3) := by decide +kernel
theorem e82_19 {d : Nat} {l0 l1 l2 l3 : Option Value} {s0 : Nat} {σ : ab_St} {Q : Option Value → ab_St → Prop} : Ev d 82 19 [l0, l1, l2, l3] [.ref s0] σ Q = (ab_k s0 = 8 ∧ Ev d 82 22 [l0, l1, l2, l3] [.ref (ab_r s0 1)] σ Q) := ev_Hc (c := ab_k s0 = 8) d82_19 rfl rfl rfl rfl rfl rfl rfl rfl
theorem d82_22 : decode (ab_C 82) 22 = .ok (.iload_n 2, 1) := by decide +kernel
theorem e82_22 {d : Nat} {l0 l1 l3 : Option Value} {x : Int32} {s0 : Nat} {σ : ab_St} {Q : Option Value → ab_St → Prop} : Ev d 82 22 [l0, l1, some (.int x), l3] [.ref s0] σ Q = Ev d 82 23 [l0, l1, some (.int x), l3] [.int x, .ref s0] σ Q := ev_A1 d82_22 rfl
theorem d82_23 : decode (ab_C 82) 23 = .ok (.iaload, 1) := by decide +kernel
theorem e82_23 {d : Nat} {l0 l1 l2 l3 : Option Value} {s0 : Int32} {s1 : Nat} {σ : ab_St} {Q : Option Value → ab_St → Prop} : Ev d 82 23 [l0, l1, l2, l3] [.int s0, .ref s1] σ Q = ((ab_k s1 = 100 ∧ ab_in s0 (ab_n s1)) ∧ Ev d 82 24 [l0, l1, l2, l3] [.int (σ.1 s1 s0.toNatClampNeg)] σ Q) := ev_Hc (c := ab_k s1 = 100 ∧ ab_in s0 (ab_n s1)) d82_23 rfl rfl rfl rfl rfl rfl rfl rfl
theorem d82_24 : decode (ab_C 82) 24 = .ok (.aload_n 1, 1) := by decide +kernel
theorem e82_24 {d : Nat} {l0 l2 l3 : Option Value} {x : Nat} {s0 : Int32} {σ : ab_St} {Q : Option Value → ab_St → Prop} : Ev d 82 24 [l0, some (.ref x), l2, l3] [.int s0] σ Q = Ev d 82 25 [l0, some (.ref x), l2, l3] [.ref x, .int s0] σ Q := ev_A1 d82_24 rfl
theorem d82_25 : decode (ab_C 82) 25 = .ok (.getfield 62, 3) := by decide +kernel
theorem e82_25 {d : Nat} {l0 l1 l2 l3 : Option Value} {s0 : Nat} {s1 : Int32} {σ : ab_St} {Q : Option Value → ab_St → Prop} : Ev d 82 25 [l0, l1, l2, l3] [.ref s0, .int s1] σ Q = (ab_k s0 = 3 ∧ Ev d 82 28 [l0, l1, l2, l3] [.ref (ab_r s0 0), .int s1] σ Q) := ev_Hc (c := ab_k s0 = 3) d82_25 rfl rfl rfl rfl rfl rfl rfl rfl
theorem d82_28 : decode (ab_C 82) 28 = .ok (.iload_n 3, 1) := by decide +kernel
theorem e82_28 {d : Nat} {l0 l1 l2 : Option Value} {x : Int32} {s0 : Nat} {s1 : Int32} {σ : ab_St} {Q : Option Value → ab_St → Prop} : Ev d 82 28 [l0, l1, l2, some (.int x)] [.ref s0, .int s1] σ Q = Ev d 82 29 [l0, l1, l2, some (.int x)] [.int x, .ref s0, .int s1] σ Q := ev_A1 d82_28 rfl
theorem d82_29 : decode (ab_C 82) 29 = .ok (.iaload, 1) := by decide +kernel
theorem e82_29 {d : Nat} {l0 l1 l2 l3 : Option Value} {s0 : Int32} {s1 : Nat} {s2 : Int32} {σ : ab_St} {Q : Option Value → ab_St → Prop} : Ev d 82 29 [l0, l1, l2, l3] [.int s0, .ref s1, .int s2] σ Q = ((ab_k s1 = 100 ∧ ab_in s0 (ab_n s1)) ∧ Ev d 82 30 [l0, l1, l2, l3] [.int (σ.1 s1 s0.toNatClampNeg), .int s2] σ Q) := ev_Hc (c := ab_k s1 = 100 ∧ ab_in s0 (ab_n s1)) d82_29 rfl rfl rfl rfl rfl rfl rfl rfl
theorem d82_30 : decode (ab_C 82) 30 = .ok (.invokestatic 58, 3) := by decide +kernel
theorem e82_30 {d : Nat} {l0 l1 l2 l3 : Option Value} {s0 : Int32} {s1 : Int32} {σ : ab_St} {Q : Option Value → ab_St → Prop} : Ev (d + 1) 82 30 [l0, l1, l2, l3] [.int s0, .int s1] σ Q = Ev d 32 0 [some (.int s1), some (.int s0)] [] σ (fun r σ2 => Ev (d + 1) 82 33 [l0, l1, l2, l3] (r.toList ++ []) σ2 Q) := ev_K0 (y := 32) (ls := [l0, l1, l2, l3]) (st := [.int s0, .int s1]) (as := [.int s1, .int s0]) (rest := []) d82_30 rfl rfl rfl rfl rfl rfl rfl rfl
theorem d82_33 : decode (ab_C 82) 33 = .ok (.ifCond .eq 15, 3) := by decide +kernel
theorem e82_33 {d : Nat} {l0 l1 l2 l3 : Option Value} {s0 : Int32} {σ : ab_St} {Q : Option Value → ab_St → Prop} : Ev d 82 33 [l0, l1, l2, l3] [.int s0] σ Q = if s0 = 0 then Ev d 82 48 [l0, l1, l2, l3] [] σ Q else Ev d 82 36 [l0, l1, l2, l3] [] σ Q := ev_B (c := s0 = 0) d82_33 rfl rfl rfl rfl rfl
theorem d82_36 : decode (ab_C 82) 36 = .ok (.aload_n 0, 1) := by decide +kernel
theorem e82_36 {d : Nat} {l1 l2 l3 : Option Value} {x : Nat} {σ : ab_St} {Q : Option Value → ab_St → Prop} : Ev d 82 36 [some (.ref x), l1, l2, l3] [] σ Q = Ev d 82 37 [some (.ref x), l1, l2, l3] [.ref x] σ Q := ev_A1 d82_36 rfl
theorem d82_37 : decode (ab_C 82) 37 = .ok (.getfield 18, 3) := by decide +kernel
theorem e82_37 {d : Nat} {l0 l1 l2 l3 : Option Value} {s0 : Nat} {σ : ab_St} {Q : Option Value → ab_St → Prop} : Ev d 82 37 [l0, l1, l2, l3] [.ref s0] σ Q = (ab_k s0 = 8 ∧ Ev d 82 40 [l0, l1, l2, l3] [.ref (ab_r s0 1)] σ Q) := ev_Hc (c := ab_k s0 = 8) d82_37 rfl rfl rfl rfl rfl rfl rfl rfl
theorem d82_40 : decode (ab_C 82) 40 = .ok (.iload_n 2, 1) := by decide +kernel
theorem e82_40 {d : Nat} {l0 l1 l3 : Option Value} {x : Int32} {s0 : Nat} {σ : ab_St} {Q : Option Value → ab_St → Prop} : Ev d 82 40 [l0, l1, some (.int x), l3] [.ref s0] σ Q = Ev d 82 41 [l0, l1, some (.int x), l3] [.int x, .ref s0] σ Q := ev_A1 d82_40 rfl
theorem d82_41 : decode (ab_C 82) 41 = .ok (.iconst 1, 1) := by decide +kernel
theorem e82_41 {d : Nat} {l0 l1 l2 l3 : Option Value} {s0 : Int32} {s1 : Nat} {σ : ab_St} {Q : Option Value → ab_St → Prop} : Ev d 82 41 [l0, l1, l2, l3] [.int s0, .ref s1] σ Q = Ev d 82 42 [l0, l1, l2, l3] [.int 1, .int s0, .ref s1] σ Q := ev_A1 d82_41 rfl
theorem d82_42 : decode (ab_C 82) 42 = .ok (.iload_n 3, 1) := by decide +kernel
theorem e82_42 {d : Nat} {l0 l1 l2 : Option Value} {x : Int32} {s0 : Int32} {s1 : Int32} {s2 : Nat} {σ : ab_St} {Q : Option Value → ab_St → Prop} : Ev d 82 42 [l0, l1, l2, some (.int x)] [.int s0, .int s1, .ref s2] σ Q = Ev d 82 43 [l0, l1, l2, some (.int x)] [.int x, .int s0, .int s1, .ref s2] σ Q := ev_A1 d82_42 rfl
theorem d82_43 : decode (ab_C 82) 43 = .ok (.ishl, 1) := by decide +kernel
theorem e82_43 {d : Nat} {l0 l1 l2 l3 : Option Value} {s0 : Int32} {s1 : Int32} {s2 : Int32} {s3 : Nat} {σ : ab_St} {Q : Option Value → ab_St → Prop} : Ev d 82 43 [l0, l1, l2, l3] [.int s0, .int s1, .int s2, .ref s3] σ Q = Ev d 82 44 [l0, l1, l2, l3] [.int (s1 <<< (s0 &&& 31)), .int s2, .ref s3] σ Q := ev_A2 d82_43 rfl rfl
theorem d82_44 : decode (ab_C 82) 44 = .ok (.ior, 1) := by decide +kernel
theorem e82_44 {d : Nat} {l0 l1 l2 l3 : Option Value} {s0 : Int32} {s1 : Int32} {s2 : Nat} {σ : ab_St} {Q : Option Value → ab_St → Prop} : Ev d 82 44 [l0, l1, l2, l3] [.int s0, .int s1, .ref s2] σ Q = Ev d 82 45 [l0, l1, l2, l3] [.int (s1 ||| s0), .ref s2] σ Q := ev_A2 d82_44 rfl rfl
theorem d82_45 : decode (ab_C 82) 45 = .ok (.bipush 64, 2) := by decide +kernel
theorem e82_45 {d : Nat} {l0 l1 l2 l3 : Option Value} {s0 : Int32} {s1 : Nat} {σ : ab_St} {Q : Option Value → ab_St → Prop} : Ev d 82 45 [l0, l1, l2, l3] [.int s0, .ref s1] σ Q = Ev d 82 47 [l0, l1, l2, l3] [.int 64, .int s0, .ref s1] σ Q := ev_A1 d82_45 rfl
theorem d82_47 : decode (ab_C 82) 47 = .ok (.iastore, 1) := by decide +kernel
theorem e82_47 {d : Nat} {l0 l1 l2 l3 : Option Value} {s0 : Int32} {s1 : Int32} {s2 : Nat} {σ : ab_St} {Q : Option Value → ab_St → Prop} : Ev d 82 47 [l0, l1, l2, l3] [.int s0, .int s1, .ref s2] σ Q = ((ab_k s2 = 100 ∧ ab_in s1 (ab_n s2)) ∧ Ev d 82 48 [l0, l1, l2, l3] [] (ab_wI σ s2 (upd (σ.1 s2) s1.toNatClampNeg s0)) Q) := ev_Hc (c := ab_k s2 = 100 ∧ ab_in s1 (ab_n s2)) d82_47 rfl rfl rfl rfl rfl rfl rfl rfl
theorem d82_48 : decode (ab_C 82) 48 = .ok (.iinc 3 1, 3) := by decide +kernel
theorem e82_48 {d : Nat} {l0 l1 l2 : Option Value} {x : Int32} {σ : ab_St} {Q : Option Value → ab_St → Prop} : Ev d 82 48 [l0, l1, l2, some (.int x)] [] σ Q = Ev d 82 51 [l0, l1, l2, some (.int (x + 1))] [] σ Q := ev_S d82_48 rfl rfl rfl rfl
theorem d82_51 : decode (ab_C 82) 51 = .ok (.goto (-49), 3) := by decide +kernel
theorem e82_51 {d : Nat} {l0 l1 l2 l3 : Option Value} {σ : ab_St} {Q : Option Value → ab_St → Prop} : Ev d 82 51 [l0, l1, l2, l3] [] σ Q = Ev d 82 2 [l0, l1, l2, l3] [] σ Q := ev_J d82_51 rfl rfl rfl rfl rfl
theorem d82_54 : decode (ab_C 82) 54 = .ok (.return_, 1) := by decide +kernel
theorem e82_54 {d : Nat} {l0 l1 l2 l3 : Option Value} {σ : ab_St} {Q : Option Value → ab_St → Prop} : Ev d 82 54 [l0, l1, l2, l3] [] σ Q = Q none σ := ev_E d82_54 rfl rfl rfl rfl rfl rfl rfl
/-! SaidLeast$Contest.endFrom(LSaidLeast$Told;I)I -/
theorem d83_0 : decode (ab_C 83) 0 = .ok (.iload_n 2, 1) := by decide +kernel
theorem e83_0 {d : Nat} {l0 l1 l3 l4 : Option Value} {x : Int32} {σ : ab_St} {Q : Option Value → ab_St → Prop} : Ev d 83 0 [l0, l1, some (.int x), l3, l4] [] σ Q = Ev d 83 1 [l0, l1, some (.int x), l3, l4] [.int x] σ Q := ev_A1 d83_0 rfl
theorem d83_1 : decode (ab_C 83) 1 = .ok (.istore_n 3, 1) := by decide +kernel
theorem e83_1 {d : Nat} {l0 l1 l2 l3 l4 : Option Value} {s0 : Int32} {σ : ab_St} {Q : Option Value → ab_St → Prop} : Ev d 83 1 [l0, l1, l2, l3, l4] [.int s0] σ Q = Ev d 83 2 [l0, l1, l2, some (.int s0), l4] [] σ Q := ev_S d83_1 rfl rfl rfl rfl
theorem d83_2 : decode (ab_C 83) 2 = .ok (.iconst 5, 1) := by decide +kernel
theorem e83_2 {d : Nat} {l0 l1 l2 l3 l4 : Option Value} {σ : ab_St} {Q : Option Value → ab_St → Prop} : Ev d 83 2 [l0, l1, l2, l3, l4] [] σ Q = Ev d 83 3 [l0, l1, l2, l3, l4] [.int 5] σ Q := ev_A1 d83_2 rfl
theorem d83_3 : decode (ab_C 83) 3 = .ok (.istore 4, 2) := by decide +kernel
theorem e83_3 {d : Nat} {l0 l1 l2 l3 l4 : Option Value} {s0 : Int32} {σ : ab_St} {Q : Option Value → ab_St → Prop} : Ev d 83 3 [l0, l1, l2, l3, l4] [.int s0] σ Q = Ev d 83 5 [l0, l1, l2, l3, some (.int s0)] [] σ Q := ev_S d83_3 rfl rfl rfl rfl
theorem d83_5 : decode (ab_C 83) 5 = .ok (.iload 4, 2) := by decide +kernel
theorem e83_5 {d : Nat} {l0 l1 l2 l3 : Option Value} {x : Int32} {σ : ab_St} {Q : Option Value → ab_St → Prop} : Ev d 83 5 [l0, l1, l2, l3, some (.int x)] [] σ Q = Ev d 83 7 [l0, l1, l2, l3, some (.int x)] [.int x] σ Q := ev_A1 d83_5 rfl
theorem d83_7 : decode (ab_C 83) 7 = .ok (.ifCond .lt 33, 3) := by decide +kernel
theorem e83_7 {d : Nat} {l0 l1 l2 l3 l4 : Option Value} {s0 : Int32} {σ : ab_St} {Q : Option Value → ab_St → Prop} : Ev d 83 7 [l0, l1, l2, l3, l4] [.int s0] σ Q = if s0 < 0 then Ev d 83 40 [l0, l1, l2, l3, l4] [] σ Q else Ev d 83 10 [l0, l1, l2, l3, l4] [] σ Q := ev_B (c := s0 < 0) d83_7 rfl rfl rfl rfl rfl
theorem d83_10 : decode (ab_C 83) 10 = .ok (.aload_n 0, 1) := by decide +kernel
theorem e83_10 {d : Nat} {l1 l2 l3 l4 : Option Value} {x : Nat} {σ : ab_St} {Q : Option Value → ab_St → Prop} : Ev d 83 10 [some (.ref x), l1, l2, l3, l4] [] σ Q = Ev d 83 11 [some (.ref x), l1, l2, l3, l4] [.ref x] σ Q := ev_A1 d83_10 rfl
theorem d83_11 : decode (ab_C 83) 11 = .ok (.getfield 18, 3) := by decide +kernel
theorem e83_11 {d : Nat} {l0 l1 l2 l3 l4 : Option Value} {s0 : Nat} {σ : ab_St} {Q : Option Value → ab_St → Prop} : Ev d 83 11 [l0, l1, l2, l3, l4] [.ref s0] σ Q = (ab_k s0 = 8 ∧ Ev d 83 14 [l0, l1, l2, l3, l4] [.ref (ab_r s0 1)] σ Q) := ev_Hc (c := ab_k s0 = 8) d83_11 rfl rfl rfl rfl rfl rfl rfl rfl
theorem d83_14 : decode (ab_C 83) 14 = .ok (.iload_n 2, 1) := by decide +kernel
theorem e83_14 {d : Nat} {l0 l1 l3 l4 : Option Value} {x : Int32} {s0 : Nat} {σ : ab_St} {Q : Option Value → ab_St → Prop} : Ev d 83 14 [l0, l1, some (.int x), l3, l4] [.ref s0] σ Q = Ev d 83 15 [l0, l1, some (.int x), l3, l4] [.int x, .ref s0] σ Q := ev_A1 d83_14 rfl
theorem d83_15 : decode (ab_C 83) 15 = .ok (.iaload, 1) := by decide +kernel
theorem e83_15 {d : Nat} {l0 l1 l2 l3 l4 : Option Value} {s0 : Int32} {s1 : Nat} {σ : ab_St} {Q : Option Value → ab_St → Prop} : Ev d 83 15 [l0, l1, l2, l3, l4] [.int s0, .ref s1] σ Q = ((ab_k s1 = 100 ∧ ab_in s0 (ab_n s1)) ∧ Ev d 83 16 [l0, l1, l2, l3, l4] [.int (σ.1 s1 s0.toNatClampNeg)] σ Q) := ev_Hc (c := ab_k s1 = 100 ∧ ab_in s0 (ab_n s1)) d83_15 rfl rfl rfl rfl rfl rfl rfl rfl
theorem d83_16 : decode (ab_C 83) 16 = .ok (.iload 4, 2) := by decide +kernel
theorem e83_16 {d : Nat} {l0 l1 l2 l3 : Option Value} {x : Int32} {s0 : Int32} {σ : ab_St} {Q : Option Value → ab_St → Prop} : Ev d 83 16 [l0, l1, l2, l3, some (.int x)] [.int s0] σ Q = Ev d 83 18 [l0, l1, l2, l3, some (.int x)] [.int x, .int s0] σ Q := ev_A1 d83_16 rfl
theorem d83_18 : decode (ab_C 83) 18 = .ok (.invokestatic 58, 3) := by decide +kernel
theorem e83_18 {d : Nat} {l0 l1 l2 l3 l4 : Option Value} {s0 : Int32} {s1 : Int32} {σ : ab_St} {Q : Option Value → ab_St → Prop} : Ev (d + 1) 83 18 [l0, l1, l2, l3, l4] [.int s0, .int s1] σ Q = Ev d 32 0 [some (.int s1), some (.int s0)] [] σ (fun r σ2 => Ev (d + 1) 83 21 [l0, l1, l2, l3, l4] (r.toList ++ []) σ2 Q) := ev_K0 (y := 32) (ls := [l0, l1, l2, l3, l4]) (st := [.int s0, .int s1]) (as := [.int s1, .int s0]) (rest := []) d83_18 rfl rfl rfl rfl rfl rfl rfl rfl
theorem d83_21 : decode (ab_C 83) 21 = .ok (.ifCond .eq 13, 3) := by decide +kernel
theorem e83_21 {d : Nat} {l0 l1 l2 l3 l4 : Option Value} {s0 : Int32} {σ : ab_St} {Q : Option Value → ab_St → Prop} : Ev d 83 21 [l0, l1, l2, l3, l4] [.int s0] σ Q = if s0 = 0 then Ev d 83 34 [l0, l1, l2, l3, l4] [] σ Q else Ev d 83 24 [l0, l1, l2, l3, l4] [] σ Q := ev_B (c := s0 = 0) d83_21 rfl rfl rfl rfl rfl
theorem d83_24 : decode (ab_C 83) 24 = .ok (.aload_n 0, 1) := by decide +kernel
theorem e83_24 {d : Nat} {l1 l2 l3 l4 : Option Value} {x : Nat} {σ : ab_St} {Q : Option Value → ab_St → Prop} : Ev d 83 24 [some (.ref x), l1, l2, l3, l4] [] σ Q = Ev d 83 25 [some (.ref x), l1, l2, l3, l4] [.ref x] σ Q := ev_A1 d83_24 rfl
theorem d83_25 : decode (ab_C 83) 25 = .ok (.aload_n 1, 1) := by decide +kernel
theorem e83_25 {d : Nat} {l0 l2 l3 l4 : Option Value} {x : Nat} {s0 : Nat} {σ : ab_St} {Q : Option Value → ab_St → Prop} : Ev d 83 25 [l0, some (.ref x), l2, l3, l4] [.ref s0] σ Q = Ev d 83 26 [l0, some (.ref x), l2, l3, l4] [.ref x, .ref s0] σ Q := ev_A1 d83_25 rfl
theorem d83_26 : decode (ab_C 83) 26 = .ok (.iload 4, 2) := by decide +kernel
theorem e83_26 {d : Nat} {l0 l1 l2 l3 : Option Value} {x : Int32} {s0 : Nat} {s1 : Nat} {σ : ab_St} {Q : Option Value → ab_St → Prop} : Ev d 83 26 [l0, l1, l2, l3, some (.int x)] [.ref s0, .ref s1] σ Q = Ev d 83 28 [l0, l1, l2, l3, some (.int x)] [.int x, .ref s0, .ref s1] σ Q := ev_A1 d83_26 rfl
theorem d83_28 : decode (ab_C 83) 28 = .ok (.iload_n 2, 1) := by decide +kernel
theorem e83_28 {d : Nat} {l0 l1 l3 l4 : Option Value} {x : Int32} {s0 : Int32} {s1 : Nat} {s2 : Nat} {σ : ab_St} {Q : Option Value → ab_St → Prop} : Ev d 83 28 [l0, l1, some (.int x), l3, l4] [.int s0, .ref s1, .ref s2] σ Q = Ev d 83 29 [l0, l1, some (.int x), l3, l4] [.int x, .int s0, .ref s1, .ref s2] σ Q := ev_A1 d83_28 rfl
theorem d83_29 : decode (ab_C 83) 29 = .ok (.iload_n 3, 1) := by decide +kernel
theorem e83_29 {d : Nat} {l0 l1 l2 l4 : Option Value} {x : Int32} {s0 : Int32} {s1 : Int32} {s2 : Nat} {s3 : Nat} {σ : ab_St} {Q : Option Value → ab_St → Prop} : Ev d 83 29 [l0, l1, l2, some (.int x), l4] [.int s0, .int s1, .ref s2, .ref s3] σ Q = Ev d 83 30 [l0, l1, l2, some (.int x), l4] [.int x, .int s0, .int s1, .ref s2, .ref s3] σ Q := ev_A1 d83_29 rfl
theorem d83_30 : decode (ab_C 83) 30 = .ok (.invokevirtual 65, 3) := by decide +kernel
theorem e83_30 {d : Nat} {l0 l1 l2 l3 l4 : Option Value} {s0 : Int32} {s1 : Int32} {s2 : Int32} {s3 : Nat} {s4 : Nat} {σ : ab_St} {Q : Option Value → ab_St → Prop} : Ev (d + 1) 83 30 [l0, l1, l2, l3, l4] [.int s0, .int s1, .int s2, .ref s3, .ref s4] σ Q = (ab_k s4 = 8 ∧ Ev d 84 0 [some (.ref s4), some (.ref s3), some (.int s2), some (.int s1), some (.int s0), none, none, none, none, none, none] [] σ (fun r σ2 => Ev (d + 1) 83 33 [l0, l1, l2, l3, l4] (r.toList ++ []) σ2 Q)) := ev_KV (b := s4) (ls := [l0, l1, l2, l3, l4]) (st := [.int s0, .int s1, .int s2, .ref s3, .ref s4]) (as := [.ref s3, .int s2, .int s1, .int s0]) (rest := []) d83_30 rfl rfl rfl (Nat.le_of_ble_eq_true rfl) (Nat.le_of_ble_eq_true rfl) (Nat.le_of_ble_eq_true rfl) rfl rfl rfl rfl rfl rfl rfl
theorem d83_33 : decode (ab_C 83) 33 = .ok (.istore_n 3, 1) := by decide +kernel
theorem e83_33 {d : Nat} {l0 l1 l2 l3 l4 : Option Value} {s0 : Int32} {σ : ab_St} {Q : Option Value → ab_St → Prop} : Ev d 83 33 [l0, l1, l2, l3, l4] [.int s0] σ Q = Ev d 83 34 [l0, l1, l2, some (.int s0), l4] [] σ Q := ev_S d83_33 rfl rfl rfl rfl
theorem d83_34 : decode (ab_C 83) 34 = .ok (.iinc 4 (-1), 3) := by decide +kernel
theorem e83_34 {d : Nat} {l0 l1 l2 l3 : Option Value} {x : Int32} {σ : ab_St} {Q : Option Value → ab_St → Prop} : Ev d 83 34 [l0, l1, l2, l3, some (.int x)] [] σ Q = Ev d 83 37 [l0, l1, l2, l3, some (.int (x + (-1)))] [] σ Q := ev_S d83_34 rfl rfl rfl rfl
theorem d83_37 : decode (ab_C 83) 37 = .ok (.goto (-32), 3) := by decide +kernel
theorem e83_37 {d : Nat} {l0 l1 l2 l3 l4 : Option Value} {σ : ab_St} {Q : Option Value → ab_St → Prop} : Ev d 83 37 [l0, l1, l2, l3, l4] [] σ Q = Ev d 83 5 [l0, l1, l2, l3, l4] [] σ Q := ev_J d83_37 rfl rfl rfl rfl rfl
theorem d83_40 : decode (ab_C 83) 40 = .ok (.iload_n 3, 1) := by decide +kernel
theorem e83_40 {d : Nat} {l0 l1 l2 l4 : Option Value} {x : Int32} {σ : ab_St} {Q : Option Value → ab_St → Prop} : Ev d 83 40 [l0, l1, l2, some (.int x), l4] [] σ Q = Ev d 83 41 [l0, l1, l2, some (.int x), l4] [.int x] σ Q := ev_A1 d83_40 rfl
theorem d83_41 : decode (ab_C 83) 41 = .ok (.ireturn, 1) := by decide +kernel
theorem e83_41 {d : Nat} {l0 l1 l2 l3 l4 : Option Value} {s0 : Int32} {σ : ab_St} {Q : Option Value → ab_St → Prop} : Ev d 83 41 [l0, l1, l2, l3, l4] [.int s0] σ Q = Q (some (.int s0)) σ := ev_E d83_41 rfl rfl rfl rfl rfl rfl rfl
/-! SaidLeast$Contest.choiceOf(LSaidLeast$Told;III)I -/
theorem d84_0 : decode (ab_C 84) 0 = .ok (.aload_n 1, 1) := by decide +kernel
theorem e84_0 {d : Nat} {l0 l2 l3 l4 l5 l6 l7 l8 l9 l10 : Option Value} {x : Nat} {σ : ab_St} {Q : Option Value → ab_St → Prop} : Ev d 84 0 [l0, some (.ref x), l2, l3, l4, l5, l6, l7, l8, l9, l10] [] σ Q = Ev d 84 1 [l0, some (.ref x), l2, l3, l4, l5, l6, l7, l8, l9, l10] [.ref x] σ Q := ev_A1 d84_0 rfl
theorem d84_1 : decode (ab_C 84) 1 = .ok (.iload_n 2, 1) := by decide +kernel
theorem e84_1 {d : Nat} {l0 l1 l3 l4 l5 l6 l7 l8 l9 l10 : Option Value} {x : Int32} {s0 : Nat} {σ : ab_St} {Q : Option Value → ab_St → Prop} : Ev d 84 1 [l0, l1, some (.int x), l3, l4, l5, l6, l7, l8, l9, l10] [.ref s0] σ Q = Ev d 84 2 [l0, l1, some (.int x), l3, l4, l5, l6, l7, l8, l9, l10] [.int x, .ref s0] σ Q := ev_A1 d84_1 rfl
theorem d84_2 : decode (ab_C 84) 2 = .ok (.invokevirtual 69, 3) := by decide +kernel
theorem e84_2 {d : Nat} {l0 l1 l2 l3 l4 l5 l6 l7 l8 l9 l10 : Option Value} {s0 : Int32} {s1 : Nat} {σ : ab_St} {Q : Option Value → ab_St → Prop} : Ev (d + 1) 84 2 [l0, l1, l2, l3, l4, l5, l6, l7, l8, l9, l10] [.int s0, .ref s1] σ Q = (ab_k s1 = 3 ∧ Ev d 42 0 [some (.ref s1), some (.int s0), none, none] [] σ (fun r σ2 => Ev (d + 1) 84 5 [l0, l1, l2, l3, l4, l5, l6, l7, l8, l9, l10] (r.toList ++ []) σ2 Q)) := ev_KV (b := s1) (ls := [l0, l1, l2, l3, l4, l5, l6, l7, l8, l9, l10]) (st := [.int s0, .ref s1]) (as := [.int s0]) (rest := []) d84_2 rfl rfl rfl (Nat.le_of_ble_eq_true rfl) (Nat.le_of_ble_eq_true rfl) (Nat.le_of_ble_eq_true rfl) rfl rfl rfl rfl rfl rfl rfl
theorem d84_5 : decode (ab_C 84) 5 = .ok (.istore 5, 2) := by decide +kernel
theorem e84_5 {d : Nat} {l0 l1 l2 l3 l4 l5 l6 l7 l8 l9 l10 : Option Value} {s0 : Int32} {σ : ab_St} {Q : Option Value → ab_St → Prop} : Ev d 84 5 [l0, l1, l2, l3, l4, l5, l6, l7, l8, l9, l10] [.int s0] σ Q = Ev d 84 7 [l0, l1, l2, l3, l4, some (.int s0), l6, l7, l8, l9, l10] [] σ Q := ev_S d84_5 rfl rfl rfl rfl
theorem d84_7 : decode (ab_C 84) 7 = .ok (.iload 4, 2) := by decide +kernel
theorem e84_7 {d : Nat} {l0 l1 l2 l3 l5 l6 l7 l8 l9 l10 : Option Value} {x : Int32} {σ : ab_St} {Q : Option Value → ab_St → Prop} : Ev d 84 7 [l0, l1, l2, l3, some (.int x), l5, l6, l7, l8, l9, l10] [] σ Q = Ev d 84 9 [l0, l1, l2, l3, some (.int x), l5, l6, l7, l8, l9, l10] [.int x] σ Q := ev_A1 d84_7 rfl
theorem d84_9 : decode (ab_C 84) 9 = .ok (.istore 6, 2) := by decide +kernel
theorem e84_9 {d : Nat} {l0 l1 l2 l3 l4 l5 l6 l7 l8 l9 l10 : Option Value} {s0 : Int32} {σ : ab_St} {Q : Option Value → ab_St → Prop} : Ev d 84 9 [l0, l1, l2, l3, l4, l5, l6, l7, l8, l9, l10] [.int s0] σ Q = Ev d 84 11 [l0, l1, l2, l3, l4, l5, some (.int s0), l7, l8, l9, l10] [] σ Q := ev_S d84_9 rfl rfl rfl rfl
theorem d84_11 : decode (ab_C 84) 11 = .ok (.aload_n 1, 1) := by decide +kernel
theorem e84_11 {d : Nat} {l0 l2 l3 l4 l5 l6 l7 l8 l9 l10 : Option Value} {x : Nat} {σ : ab_St} {Q : Option Value → ab_St → Prop} : Ev d 84 11 [l0, some (.ref x), l2, l3, l4, l5, l6, l7, l8, l9, l10] [] σ Q = Ev d 84 12 [l0, some (.ref x), l2, l3, l4, l5, l6, l7, l8, l9, l10] [.ref x] σ Q := ev_A1 d84_11 rfl
theorem d84_12 : decode (ab_C 84) 12 = .ok (.iload 5, 2) := by decide +kernel
theorem e84_12 {d : Nat} {l0 l1 l2 l3 l4 l6 l7 l8 l9 l10 : Option Value} {x : Int32} {s0 : Nat} {σ : ab_St} {Q : Option Value → ab_St → Prop} : Ev d 84 12 [l0, l1, l2, l3, l4, some (.int x), l6, l7, l8, l9, l10] [.ref s0] σ Q = Ev d 84 14 [l0, l1, l2, l3, l4, some (.int x), l6, l7, l8, l9, l10] [.int x, .ref s0] σ Q := ev_A1 d84_12 rfl
theorem d84_14 : decode (ab_C 84) 14 = .ok (.iload 6, 2) := by decide +kernel
theorem e84_14 {d : Nat} {l0 l1 l2 l3 l4 l5 l7 l8 l9 l10 : Option Value} {x : Int32} {s0 : Int32} {s1 : Nat} {σ : ab_St} {Q : Option Value → ab_St → Prop} : Ev d 84 14 [l0, l1, l2, l3, l4, l5, some (.int x), l7, l8, l9, l10] [.int s0, .ref s1] σ Q = Ev d 84 16 [l0, l1, l2, l3, l4, l5, some (.int x), l7, l8, l9, l10] [.int x, .int s0, .ref s1] σ Q := ev_A1 d84_14 rfl
theorem d84_16 : decode (ab_C 84) 16 = .ok (.iand, 1) := by decide +kernel
theorem e84_16 {d : Nat} {l0 l1 l2 l3 l4 l5 l6 l7 l8 l9 l10 : Option Value} {s0 : Int32} {s1 : Int32} {s2 : Nat} {σ : ab_St} {Q : Option Value → ab_St → Prop} : Ev d 84 16 [l0, l1, l2, l3, l4, l5, l6, l7, l8, l9, l10] [.int s0, .int s1, .ref s2] σ Q = Ev d 84 17 [l0, l1, l2, l3, l4, l5, l6, l7, l8, l9, l10] [.int (s1 &&& s0), .ref s2] σ Q := ev_A2 d84_16 rfl rfl
theorem d84_17 : decode (ab_C 84) 17 = .ok (.invokevirtual 73, 3) := by decide +kernel
theorem e84_17 {d : Nat} {l0 l1 l2 l3 l4 l5 l6 l7 l8 l9 l10 : Option Value} {s0 : Int32} {s1 : Nat} {σ : ab_St} {Q : Option Value → ab_St → Prop} : Ev (d + 1) 84 17 [l0, l1, l2, l3, l4, l5, l6, l7, l8, l9, l10] [.int s0, .ref s1] σ Q = (ab_k s1 = 3 ∧ Ev d 39 0 [some (.ref s1), some (.int s0), none, none] [] σ (fun r σ2 => Ev (d + 1) 84 20 [l0, l1, l2, l3, l4, l5, l6, l7, l8, l9, l10] (r.toList ++ []) σ2 Q)) := ev_KV (b := s1) (ls := [l0, l1, l2, l3, l4, l5, l6, l7, l8, l9, l10]) (st := [.int s0, .ref s1]) (as := [.int s0]) (rest := []) d84_17 rfl rfl rfl (Nat.le_of_ble_eq_true rfl) (Nat.le_of_ble_eq_true rfl) (Nat.le_of_ble_eq_true rfl) rfl rfl rfl rfl rfl rfl rfl
theorem d84_20 : decode (ab_C 84) 20 = .ok (.istore 7, 2) := by decide +kernel
theorem e84_20 {d : Nat} {l0 l1 l2 l3 l4 l5 l6 l7 l8 l9 l10 : Option Value} {s0 : Int32} {σ : ab_St} {Q : Option Value → ab_St → Prop} : Ev d 84 20 [l0, l1, l2, l3, l4, l5, l6, l7, l8, l9, l10] [.int s0] σ Q = Ev d 84 22 [l0, l1, l2, l3, l4, l5, l6, some (.int s0), l8, l9, l10] [] σ Q := ev_S d84_20 rfl rfl rfl rfl
theorem d84_22 : decode (ab_C 84) 22 = .ok (.iconst 0, 1) := by decide +kernel
theorem e84_22 {d : Nat} {l0 l1 l2 l3 l4 l5 l6 l7 l8 l9 l10 : Option Value} {σ : ab_St} {Q : Option Value → ab_St → Prop} : Ev d 84 22 [l0, l1, l2, l3, l4, l5, l6, l7, l8, l9, l10] [] σ Q = Ev d 84 23 [l0, l1, l2, l3, l4, l5, l6, l7, l8, l9, l10] [.int 0] σ Q := ev_A1 d84_22 rfl
theorem d84_23 : decode (ab_C 84) 23 = .ok (.istore 8, 2) := by decide +kernel
theorem e84_23 {d : Nat} {l0 l1 l2 l3 l4 l5 l6 l7 l8 l9 l10 : Option Value} {s0 : Int32} {σ : ab_St} {Q : Option Value → ab_St → Prop} : Ev d 84 23 [l0, l1, l2, l3, l4, l5, l6, l7, l8, l9, l10] [.int s0] σ Q = Ev d 84 25 [l0, l1, l2, l3, l4, l5, l6, l7, some (.int s0), l9, l10] [] σ Q := ev_S d84_23 rfl rfl rfl rfl
theorem d84_25 : decode (ab_C 84) 25 = .ok (.iload 8, 2) := by decide +kernel
theorem e84_25 {d : Nat} {l0 l1 l2 l3 l4 l5 l6 l7 l9 l10 : Option Value} {x : Int32} {σ : ab_St} {Q : Option Value → ab_St → Prop} : Ev d 84 25 [l0, l1, l2, l3, l4, l5, l6, l7, some (.int x), l9, l10] [] σ Q = Ev d 84 27 [l0, l1, l2, l3, l4, l5, l6, l7, some (.int x), l9, l10] [.int x] σ Q := ev_A1 d84_25 rfl
theorem d84_27 : decode (ab_C 84) 27 = .ok (.aload_n 1, 1) := by decide +kernel
theorem e84_27 {d : Nat} {l0 l2 l3 l4 l5 l6 l7 l8 l9 l10 : Option Value} {x : Nat} {s0 : Int32} {σ : ab_St} {Q : Option Value → ab_St → Prop} : Ev d 84 27 [l0, some (.ref x), l2, l3, l4, l5, l6, l7, l8, l9, l10] [.int s0] σ Q = Ev d 84 28 [l0, some (.ref x), l2, l3, l4, l5, l6, l7, l8, l9, l10] [.ref x, .int s0] σ Q := ev_A1 d84_27 rfl
theorem d84_28 : decode (ab_C 84) 28 = .ok (.getfield 29, 3) := by decide +kernel
theorem e84_28 {d : Nat} {l0 l1 l2 l3 l4 l5 l6 l7 l8 l9 l10 : Option Value} {s0 : Nat} {s1 : Int32} {σ : ab_St} {Q : Option Value → ab_St → Prop} : Ev d 84 28 [l0, l1, l2, l3, l4, l5, l6, l7, l8, l9, l10] [.ref s0, .int s1] σ Q = (ab_k s0 = 3 ∧ Ev d 84 31 [l0, l1, l2, l3, l4, l5, l6, l7, l8, l9, l10] [.int (σ.1 s0 5), .int s1] σ Q) := ev_Hc (c := ab_k s0 = 3) d84_28 rfl rfl rfl rfl rfl rfl rfl rfl
theorem d84_31 : decode (ab_C 84) 31 = .ok (.if_icmp .ge 65, 3) := by decide +kernel
theorem e84_31 {d : Nat} {l0 l1 l2 l3 l4 l5 l6 l7 l8 l9 l10 : Option Value} {s0 : Int32} {s1 : Int32} {σ : ab_St} {Q : Option Value → ab_St → Prop} : Ev d 84 31 [l0, l1, l2, l3, l4, l5, l6, l7, l8, l9, l10] [.int s0, .int s1] σ Q = if s0 ≤ s1 then Ev d 84 96 [l0, l1, l2, l3, l4, l5, l6, l7, l8, l9, l10] [] σ Q else Ev d 84 34 [l0, l1, l2, l3, l4, l5, l6, l7, l8, l9, l10] [] σ Q := ev_B (c := s0 ≤ s1) d84_31 rfl rfl rfl rfl rfl
theorem d84_34 : decode (ab_C 84) 34 = .ok (.iload 5, 2) := by decide +kernel
theorem e84_34 {d : Nat} {l0 l1 l2 l3 l4 l6 l7 l8 l9 l10 : Option Value} {x : Int32} {σ : ab_St} {Q : Option Value → ab_St → Prop} : Ev d 84 34 [l0, l1, l2, l3, l4, some (.int x), l6, l7, l8, l9, l10] [] σ Q = Ev d 84 36 [l0, l1, l2, l3, l4, some (.int x), l6, l7, l8, l9, l10] [.int x] σ Q := ev_A1 d84_34 rfl
theorem d84_36 : decode (ab_C 84) 36 = .ok (.iload_n 3, 1) := by decide +kernel
theorem e84_36 {d : Nat} {l0 l1 l2 l4 l5 l6 l7 l8 l9 l10 : Option Value} {x : Int32} {s0 : Int32} {σ : ab_St} {Q : Option Value → ab_St → Prop} : Ev d 84 36 [l0, l1, l2, some (.int x), l4, l5, l6, l7, l8, l9, l10] [.int s0] σ Q = Ev d 84 37 [l0, l1, l2, some (.int x), l4, l5, l6, l7, l8, l9, l10] [.int x, .int s0] σ Q := ev_A1 d84_36 rfl
theorem d84_37 : decode (ab_C 84) 37 = .ok (.iconst (-1), 1) := by decide +kernel
theorem e84_37 {d : Nat} {l0 l1 l2 l3 l4 l5 l6 l7 l8 l9 l10 : Option Value} {s0 : Int32} {s1 : Int32} {σ : ab_St} {Q : Option Value → ab_St → Prop} : Ev d 84 37 [l0, l1, l2, l3, l4, l5, l6, l7, l8, l9, l10] [.int s0, .int s1] σ Q = Ev d 84 38 [l0, l1, l2, l3, l4, l5, l6, l7, l8, l9, l10] [.int (-1), .int s0, .int s1] σ Q := ev_A1 d84_37 rfl
theorem d84_38 : decode (ab_C 84) 38 = .ok (.ixor, 1) := by decide +kernel
theorem e84_38 {d : Nat} {l0 l1 l2 l3 l4 l5 l6 l7 l8 l9 l10 : Option Value} {s0 : Int32} {s1 : Int32} {s2 : Int32} {σ : ab_St} {Q : Option Value → ab_St → Prop} : Ev d 84 38 [l0, l1, l2, l3, l4, l5, l6, l7, l8, l9, l10] [.int s0, .int s1, .int s2] σ Q = Ev d 84 39 [l0, l1, l2, l3, l4, l5, l6, l7, l8, l9, l10] [.int (s1 ^^^ s0), .int s2] σ Q := ev_A2 d84_38 rfl rfl
theorem d84_39 : decode (ab_C 84) 39 = .ok (.iand, 1) := by decide +kernel
theorem e84_39 {d : Nat} {l0 l1 l2 l3 l4 l5 l6 l7 l8 l9 l10 : Option Value} {s0 : Int32} {s1 : Int32} {σ : ab_St} {Q : Option Value → ab_St → Prop} : Ev d 84 39 [l0, l1, l2, l3, l4, l5, l6, l7, l8, l9, l10] [.int s0, .int s1] σ Q = Ev d 84 40 [l0, l1, l2, l3, l4, l5, l6, l7, l8, l9, l10] [.int (s1 &&& s0)] σ Q := ev_A2 d84_39 rfl rfl
theorem d84_40 : decode (ab_C 84) 40 = .ok (.iload 8, 2) := by decide +kernel
theorem e84_40 {d : Nat} {l0 l1 l2 l3 l4 l5 l6 l7 l9 l10 : Option Value} {x : Int32} {s0 : Int32} {σ : ab_St} {Q : Option Value → ab_St → Prop} : Ev d 84 40 [l0, l1, l2, l3, l4, l5, l6, l7, some (.int x), l9, l10] [.int s0] σ Q = Ev d 84 42 [l0, l1, l2, l3, l4, l5, l6, l7, some (.int x), l9, l10] [.int x, .int s0] σ Q := ev_A1 d84_40 rfl
theorem d84_42 : decode (ab_C 84) 42 = .ok (.invokestatic 58, 3) := by decide +kernel
theorem e84_42 {d : Nat} {l0 l1 l2 l3 l4 l5 l6 l7 l8 l9 l10 : Option Value} {s0 : Int32} {s1 : Int32} {σ : ab_St} {Q : Option Value → ab_St → Prop} : Ev (d + 1) 84 42 [l0, l1, l2, l3, l4, l5, l6, l7, l8, l9, l10] [.int s0, .int s1] σ Q = Ev d 32 0 [some (.int s1), some (.int s0)] [] σ (fun r σ2 => Ev (d + 1) 84 45 [l0, l1, l2, l3, l4, l5, l6, l7, l8, l9, l10] (r.toList ++ []) σ2 Q) := ev_K0 (y := 32) (ls := [l0, l1, l2, l3, l4, l5, l6, l7, l8, l9, l10]) (st := [.int s0, .int s1]) (as := [.int s1, .int s0]) (rest := []) d84_42 rfl rfl rfl rfl rfl rfl rfl rfl
theorem d84_45 : decode (ab_C 84) 45 = .ok (.ifCond .ne 6, 3) := by decide +kernel
theorem e84_45 {d : Nat} {l0 l1 l2 l3 l4 l5 l6 l7 l8 l9 l10 : Option Value} {s0 : Int32} {σ : ab_St} {Q : Option Value → ab_St → Prop} : Ev d 84 45 [l0, l1, l2, l3, l4, l5, l6, l7, l8, l9, l10] [.int s0] σ Q = if s0 = 0 then Ev d 84 48 [l0, l1, l2, l3, l4, l5, l6, l7, l8, l9, l10] [] σ Q else Ev d 84 51 [l0, l1, l2, l3, l4, l5, l6, l7, l8, l9, l10] [] σ Q := ev_B (c := s0 = 0) d84_45 rfl rfl rfl rfl rfl
theorem d84_48 : decode (ab_C 84) 48 = .ok (.goto 42, 3) := by decide +kernel
theorem e84_48 {d : Nat} {l0 l1 l2 l3 l4 l5 l6 l7 l8 l9 l10 : Option Value} {σ : ab_St} {Q : Option Value → ab_St → Prop} : Ev d 84 48 [l0, l1, l2, l3, l4, l5, l6, l7, l8, l9, l10] [] σ Q = Ev d 84 90 [l0, l1, l2, l3, l4, l5, l6, l7, l8, l9, l10] [] σ Q := ev_J d84_48 rfl rfl rfl rfl rfl
theorem d84_51 : decode (ab_C 84) 51 = .ok (.aload_n 0, 1) := by decide +kernel
theorem e84_51 {d : Nat} {l1 l2 l3 l4 l5 l6 l7 l8 l9 l10 : Option Value} {x : Nat} {σ : ab_St} {Q : Option Value → ab_St → Prop} : Ev d 84 51 [some (.ref x), l1, l2, l3, l4, l5, l6, l7, l8, l9, l10] [] σ Q = Ev d 84 52 [some (.ref x), l1, l2, l3, l4, l5, l6, l7, l8, l9, l10] [.ref x] σ Q := ev_A1 d84_51 rfl
theorem d84_52 : decode (ab_C 84) 52 = .ok (.getfield 22, 3) := by decide +kernel
theorem e84_52 {d : Nat} {l0 l1 l2 l3 l4 l5 l6 l7 l8 l9 l10 : Option Value} {s0 : Nat} {σ : ab_St} {Q : Option Value → ab_St → Prop} : Ev d 84 52 [l0, l1, l2, l3, l4, l5, l6, l7, l8, l9, l10] [.ref s0] σ Q = (ab_k s0 = 8 ∧ Ev d 84 55 [l0, l1, l2, l3, l4, l5, l6, l7, l8, l9, l10] [.ref (ab_r s0 2)] σ Q) := ev_Hc (c := ab_k s0 = 8) d84_52 rfl rfl rfl rfl rfl rfl rfl rfl
theorem d84_55 : decode (ab_C 84) 55 = .ok (.iload_n 3, 1) := by decide +kernel
theorem e84_55 {d : Nat} {l0 l1 l2 l4 l5 l6 l7 l8 l9 l10 : Option Value} {x : Int32} {s0 : Nat} {σ : ab_St} {Q : Option Value → ab_St → Prop} : Ev d 84 55 [l0, l1, l2, some (.int x), l4, l5, l6, l7, l8, l9, l10] [.ref s0] σ Q = Ev d 84 56 [l0, l1, l2, some (.int x), l4, l5, l6, l7, l8, l9, l10] [.int x, .ref s0] σ Q := ev_A1 d84_55 rfl
theorem d84_56 : decode (ab_C 84) 56 = .ok (.iconst 1, 1) := by decide +kernel
theorem e84_56 {d : Nat} {l0 l1 l2 l3 l4 l5 l6 l7 l8 l9 l10 : Option Value} {s0 : Int32} {s1 : Nat} {σ : ab_St} {Q : Option Value → ab_St → Prop} : Ev d 84 56 [l0, l1, l2, l3, l4, l5, l6, l7, l8, l9, l10] [.int s0, .ref s1] σ Q = Ev d 84 57 [l0, l1, l2, l3, l4, l5, l6, l7, l8, l9, l10] [.int 1, .int s0, .ref s1] σ Q := ev_A1 d84_56 rfl
theorem d84_57 : decode (ab_C 84) 57 = .ok (.iload 8, 2) := by decide +kernel
theorem e84_57 {d : Nat} {l0 l1 l2 l3 l4 l5 l6 l7 l9 l10 : Option Value} {x : Int32} {s0 : Int32} {s1 : Int32} {s2 : Nat} {σ : ab_St} {Q : Option Value → ab_St → Prop} : Ev d 84 57 [l0, l1, l2, l3, l4, l5, l6, l7, some (.int x), l9, l10] [.int s0, .int s1, .ref s2] σ Q = Ev d 84 59 [l0, l1, l2, l3, l4, l5, l6, l7, some (.int x), l9, l10] [.int x, .int s0, .int s1, .ref s2] σ Q := ev_A1 d84_57 rfl
theorem d84_59 : decode (ab_C 84) 59 = .ok (.ishl, 1) := by decide +kernel
theorem e84_59 {d : Nat} {l0 l1 l2 l3 l4 l5 l6 l7 l8 l9 l10 : Option Value} {s0 : Int32} {s1 : Int32} {s2 : Int32} {s3 : Nat} {σ : ab_St} {Q : Option Value → ab_St → Prop} : Ev d 84 59 [l0, l1, l2, l3, l4, l5, l6, l7, l8, l9, l10] [.int s0, .int s1, .int s2, .ref s3] σ Q = Ev d 84 60 [l0, l1, l2, l3, l4, l5, l6, l7, l8, l9, l10] [.int (s1 <<< (s0 &&& 31)), .int s2, .ref s3] σ Q := ev_A2 d84_59 rfl rfl
theorem d84_60 : decode (ab_C 84) 60 = .ok (.ior, 1) := by decide +kernel
theorem e84_60 {d : Nat} {l0 l1 l2 l3 l4 l5 l6 l7 l8 l9 l10 : Option Value} {s0 : Int32} {s1 : Int32} {s2 : Nat} {σ : ab_St} {Q : Option Value → ab_St → Prop} : Ev d 84 60 [l0, l1, l2, l3, l4, l5, l6, l7, l8, l9, l10] [.int s0, .int s1, .ref s2] σ Q = Ev d 84 61 [l0, l1, l2, l3, l4, l5, l6, l7, l8, l9, l10] [.int (s1 ||| s0), .ref s2] σ Q := ev_A2 d84_60 rfl rfl
theorem d84_61 : decode (ab_C 84) 61 = .ok (.iaload, 1) := by decide +kernel
theorem e84_61 {d : Nat} {l0 l1 l2 l3 l4 l5 l6 l7 l8 l9 l10 : Option Value} {s0 : Int32} {s1 : Nat} {σ : ab_St} {Q : Option Value → ab_St → Prop} : Ev d 84 61 [l0, l1, l2, l3, l4, l5, l6, l7, l8, l9, l10] [.int s0, .ref s1] σ Q = ((ab_k s1 = 100 ∧ ab_in s0 (ab_n s1)) ∧ Ev d 84 62 [l0, l1, l2, l3, l4, l5, l6, l7, l8, l9, l10] [.int (σ.1 s1 s0.toNatClampNeg)] σ Q) := ev_Hc (c := ab_k s1 = 100 ∧ ab_in s0 (ab_n s1)) d84_61 rfl rfl rfl rfl rfl rfl rfl rfl
theorem d84_62 : decode (ab_C 84) 62 = .ok (.istore 9, 2) := by decide +kernel
theorem e84_62 {d : Nat} {l0 l1 l2 l3 l4 l5 l6 l7 l8 l9 l10 : Option Value} {s0 : Int32} {σ : ab_St} {Q : Option Value → ab_St → Prop} : Ev d 84 62 [l0, l1, l2, l3, l4, l5, l6, l7, l8, l9, l10] [.int s0] σ Q = Ev d 84 64 [l0, l1, l2, l3, l4, l5, l6, l7, l8, some (.int s0), l10] [] σ Q := ev_S d84_62 rfl rfl rfl rfl
theorem d84_64 : decode (ab_C 84) 64 = .ok (.aload_n 1, 1) := by decide +kernel
theorem e84_64 {d : Nat} {l0 l2 l3 l4 l5 l6 l7 l8 l9 l10 : Option Value} {x : Nat} {σ : ab_St} {Q : Option Value → ab_St → Prop} : Ev d 84 64 [l0, some (.ref x), l2, l3, l4, l5, l6, l7, l8, l9, l10] [] σ Q = Ev d 84 65 [l0, some (.ref x), l2, l3, l4, l5, l6, l7, l8, l9, l10] [.ref x] σ Q := ev_A1 d84_64 rfl
theorem d84_65 : decode (ab_C 84) 65 = .ok (.iload 5, 2) := by decide +kernel
theorem e84_65 {d : Nat} {l0 l1 l2 l3 l4 l6 l7 l8 l9 l10 : Option Value} {x : Int32} {s0 : Nat} {σ : ab_St} {Q : Option Value → ab_St → Prop} : Ev d 84 65 [l0, l1, l2, l3, l4, some (.int x), l6, l7, l8, l9, l10] [.ref s0] σ Q = Ev d 84 67 [l0, l1, l2, l3, l4, some (.int x), l6, l7, l8, l9, l10] [.int x, .ref s0] σ Q := ev_A1 d84_65 rfl
theorem d84_67 : decode (ab_C 84) 67 = .ok (.iload 9, 2) := by decide +kernel
theorem e84_67 {d : Nat} {l0 l1 l2 l3 l4 l5 l6 l7 l8 l10 : Option Value} {x : Int32} {s0 : Int32} {s1 : Nat} {σ : ab_St} {Q : Option Value → ab_St → Prop} : Ev d 84 67 [l0, l1, l2, l3, l4, l5, l6, l7, l8, some (.int x), l10] [.int s0, .ref s1] σ Q = Ev d 84 69 [l0, l1, l2, l3, l4, l5, l6, l7, l8, some (.int x), l10] [.int x, .int s0, .ref s1] σ Q := ev_A1 d84_67 rfl
theorem d84_69 : decode (ab_C 84) 69 = .ok (.iand, 1) := by decide +kernel
theorem e84_69 {d : Nat} {l0 l1 l2 l3 l4 l5 l6 l7 l8 l9 l10 : Option Value} {s0 : Int32} {s1 : Int32} {s2 : Nat} {σ : ab_St} {Q : Option Value → ab_St → Prop} : Ev d 84 69 [l0, l1, l2, l3, l4, l5, l6, l7, l8, l9, l10] [.int s0, .int s1, .ref s2] σ Q = Ev d 84 70 [l0, l1, l2, l3, l4, l5, l6, l7, l8, l9, l10] [.int (s1 &&& s0), .ref s2] σ Q := ev_A2 d84_69 rfl rfl
theorem d84_70 : decode (ab_C 84) 70 = .ok (.invokevirtual 73, 3) := by decide +kernel
theorem e84_70 {d : Nat} {l0 l1 l2 l3 l4 l5 l6 l7 l8 l9 l10 : Option Value} {s0 : Int32} {s1 : Nat} {σ : ab_St} {Q : Option Value → ab_St → Prop} : Ev (d + 1) 84 70 [l0, l1, l2, l3, l4, l5, l6, l7, l8, l9, l10] [.int s0, .ref s1] σ Q = (ab_k s1 = 3 ∧ Ev d 39 0 [some (.ref s1), some (.int s0), none, none] [] σ (fun r σ2 => Ev (d + 1) 84 73 [l0, l1, l2, l3, l4, l5, l6, l7, l8, l9, l10] (r.toList ++ []) σ2 Q)) := ev_KV (b := s1) (ls := [l0, l1, l2, l3, l4, l5, l6, l7, l8, l9, l10]) (st := [.int s0, .ref s1]) (as := [.int s0]) (rest := []) d84_70 rfl rfl rfl (Nat.le_of_ble_eq_true rfl) (Nat.le_of_ble_eq_true rfl) (Nat.le_of_ble_eq_true rfl) rfl rfl rfl rfl rfl rfl rfl
theorem d84_73 : decode (ab_C 84) 73 = .ok (.istore 10, 2) := by decide +kernel
theorem e84_73 {d : Nat} {l0 l1 l2 l3 l4 l5 l6 l7 l8 l9 l10 : Option Value} {s0 : Int32} {σ : ab_St} {Q : Option Value → ab_St → Prop} : Ev d 84 73 [l0, l1, l2, l3, l4, l5, l6, l7, l8, l9, l10] [.int s0] σ Q = Ev d 84 75 [l0, l1, l2, l3, l4, l5, l6, l7, l8, l9, some (.int s0)] [] σ Q := ev_S d84_73 rfl rfl rfl rfl
theorem d84_75 : decode (ab_C 84) 75 = .ok (.iload 10, 2) := by decide +kernel
theorem e84_75 {d : Nat} {l0 l1 l2 l3 l4 l5 l6 l7 l8 l9 : Option Value} {x : Int32} {σ : ab_St} {Q : Option Value → ab_St → Prop} : Ev d 84 75 [l0, l1, l2, l3, l4, l5, l6, l7, l8, l9, some (.int x)] [] σ Q = Ev d 84 77 [l0, l1, l2, l3, l4, l5, l6, l7, l8, l9, some (.int x)] [.int x] σ Q := ev_A1 d84_75 rfl
theorem d84_77 : decode (ab_C 84) 77 = .ok (.iload 7, 2) := by decide +kernel
theorem e84_77 {d : Nat} {l0 l1 l2 l3 l4 l5 l6 l8 l9 l10 : Option Value} {x : Int32} {s0 : Int32} {σ : ab_St} {Q : Option Value → ab_St → Prop} : Ev d 84 77 [l0, l1, l2, l3, l4, l5, l6, some (.int x), l8, l9, l10] [.int s0] σ Q = Ev d 84 79 [l0, l1, l2, l3, l4, l5, l6, some (.int x), l8, l9, l10] [.int x, .int s0] σ Q := ev_A1 d84_77 rfl
theorem d84_79 : decode (ab_C 84) 79 = .ok (.if_icmp .le 11, 3) := by decide +kernel
theorem e84_79 {d : Nat} {l0 l1 l2 l3 l4 l5 l6 l7 l8 l9 l10 : Option Value} {s0 : Int32} {s1 : Int32} {σ : ab_St} {Q : Option Value → ab_St → Prop} : Ev d 84 79 [l0, l1, l2, l3, l4, l5, l6, l7, l8, l9, l10] [.int s0, .int s1] σ Q = if s1 ≤ s0 then Ev d 84 90 [l0, l1, l2, l3, l4, l5, l6, l7, l8, l9, l10] [] σ Q else Ev d 84 82 [l0, l1, l2, l3, l4, l5, l6, l7, l8, l9, l10] [] σ Q := ev_B (c := s1 ≤ s0) d84_79 rfl rfl rfl rfl rfl
theorem d84_82 : decode (ab_C 84) 82 = .ok (.iload 10, 2) := by decide +kernel
theorem e84_82 {d : Nat} {l0 l1 l2 l3 l4 l5 l6 l7 l8 l9 : Option Value} {x : Int32} {σ : ab_St} {Q : Option Value → ab_St → Prop} : Ev d 84 82 [l0, l1, l2, l3, l4, l5, l6, l7, l8, l9, some (.int x)] [] σ Q = Ev d 84 84 [l0, l1, l2, l3, l4, l5, l6, l7, l8, l9, some (.int x)] [.int x] σ Q := ev_A1 d84_82 rfl
theorem d84_84 : decode (ab_C 84) 84 = .ok (.istore 7, 2) := by decide +kernel
theorem e84_84 {d : Nat} {l0 l1 l2 l3 l4 l5 l6 l7 l8 l9 l10 : Option Value} {s0 : Int32} {σ : ab_St} {Q : Option Value → ab_St → Prop} : Ev d 84 84 [l0, l1, l2, l3, l4, l5, l6, l7, l8, l9, l10] [.int s0] σ Q = Ev d 84 86 [l0, l1, l2, l3, l4, l5, l6, some (.int s0), l8, l9, l10] [] σ Q := ev_S d84_84 rfl rfl rfl rfl
theorem d84_86 : decode (ab_C 84) 86 = .ok (.iload 9, 2) := by decide +kernel
theorem e84_86 {d : Nat} {l0 l1 l2 l3 l4 l5 l6 l7 l8 l10 : Option Value} {x : Int32} {σ : ab_St} {Q : Option Value → ab_St → Prop} : Ev d 84 86 [l0, l1, l2, l3, l4, l5, l6, l7, l8, some (.int x), l10] [] σ Q = Ev d 84 88 [l0, l1, l2, l3, l4, l5, l6, l7, l8, some (.int x), l10] [.int x] σ Q := ev_A1 d84_86 rfl
theorem d84_88 : decode (ab_C 84) 88 = .ok (.istore 6, 2) := by decide +kernel
theorem e84_88 {d : Nat} {l0 l1 l2 l3 l4 l5 l6 l7 l8 l9 l10 : Option Value} {s0 : Int32} {σ : ab_St} {Q : Option Value → ab_St → Prop} : Ev d 84 88 [l0, l1, l2, l3, l4, l5, l6, l7, l8, l9, l10] [.int s0] σ Q = Ev d 84 90 [l0, l1, l2, l3, l4, l5, some (.int s0), l7, l8, l9, l10] [] σ Q := ev_S d84_88 rfl rfl rfl rfl
theorem d84_90 : decode (ab_C 84) 90 = .ok (.iinc 8 1, 3) := by decide +kernel
theorem e84_90 {d : Nat} {l0 l1 l2 l3 l4 l5 l6 l7 l9 l10 : Option Value} {x : Int32} {σ : ab_St} {Q : Option Value → ab_St → Prop} : Ev d 84 90 [l0, l1, l2, l3, l4, l5, l6, l7, some (.int x), l9, l10] [] σ Q = Ev d 84 93 [l0, l1, l2, l3, l4, l5, l6, l7, some (.int (x + 1)), l9, l10] [] σ Q := ev_S d84_90 rfl rfl rfl rfl
theorem d84_93 : decode (ab_C 84) 93 = .ok (.goto (-68), 3) := by decide +kernel
theorem e84_93 {d : Nat} {l0 l1 l2 l3 l4 l5 l6 l7 l8 l9 l10 : Option Value} {σ : ab_St} {Q : Option Value → ab_St → Prop} : Ev d 84 93 [l0, l1, l2, l3, l4, l5, l6, l7, l8, l9, l10] [] σ Q = Ev d 84 25 [l0, l1, l2, l3, l4, l5, l6, l7, l8, l9, l10] [] σ Q := ev_J d84_93 rfl rfl rfl rfl rfl
theorem d84_96 : decode (ab_C 84) 96 = .ok (.iload 6, 2) := by decide +kernel
theorem e84_96 {d : Nat} {l0 l1 l2 l3 l4 l5 l7 l8 l9 l10 : Option Value} {x : Int32} {σ : ab_St} {Q : Option Value → ab_St → Prop} : Ev d 84 96 [l0, l1, l2, l3, l4, l5, some (.int x), l7, l8, l9, l10] [] σ Q = Ev d 84 98 [l0, l1, l2, l3, l4, l5, some (.int x), l7, l8, l9, l10] [.int x] σ Q := ev_A1 d84_96 rfl
theorem d84_98 : decode (ab_C 84) 98 = .ok (.ireturn, 1) := by decide +kernel
theorem e84_98 {d : Nat} {l0 l1 l2 l3 l4 l5 l6 l7 l8 l9 l10 : Option Value} {s0 : Int32} {σ : ab_St} {Q : Option Value → ab_St → Prop} : Ev d 84 98 [l0, l1, l2, l3, l4, l5, l6, l7, l8, l9, l10] [.int s0] σ Q = Q (some (.int s0)) σ := ev_E d84_98 rfl rfl rfl rfl rfl rfl rfl
/-! SaidLeast.out(II)J -/
theorem d85_0 : decode (ab_C 85) 0 = .ok (.iload_n 1, 1) := by decide +kernel
theorem e85_0 {d : Nat} {l0 l2 : Option Value} {x : Int32} {σ : ab_St} {Q : Option Value → ab_St → Prop} : Ev d 85 0 [l0, some (.int x), l2] [] σ Q = Ev d 85 1 [l0, some (.int x), l2] [.int x] σ Q := ev_A1 d85_0 rfl
theorem d85_1 : decode (ab_C 85) 1 = .ok (.ifCond .lt 26, 3) := by decide +kernel
theorem e85_1 {d : Nat} {l0 l1 l2 : Option Value} {s0 : Int32} {σ : ab_St} {Q : Option Value → ab_St → Prop} : Ev d 85 1 [l0, l1, l2] [.int s0] σ Q = if s0 < 0 then Ev d 85 27 [l0, l1, l2] [] σ Q else Ev d 85 4 [l0, l1, l2] [] σ Q := ev_B (c := s0 < 0) d85_1 rfl rfl rfl rfl rfl
theorem d85_4 : decode (ab_C 85) 4 = .ok (.iload_n 1, 1) := by decide +kernel
theorem e85_4 {d : Nat} {l0 l2 : Option Value} {x : Int32} {σ : ab_St} {Q : Option Value → ab_St → Prop} : Ev d 85 4 [l0, some (.int x), l2] [] σ Q = Ev d 85 5 [l0, some (.int x), l2] [.int x] σ Q := ev_A1 d85_4 rfl
theorem d85_5 : decode (ab_C 85) 5 = .ok (.bipush 54, 2) := by decide +kernel
theorem e85_5 {d : Nat} {l0 l1 l2 : Option Value} {s0 : Int32} {σ : ab_St} {Q : Option Value → ab_St → Prop} : Ev d 85 5 [l0, l1, l2] [.int s0] σ Q = Ev d 85 7 [l0, l1, l2] [.int 54, .int s0] σ Q := ev_A1 d85_5 rfl
theorem d85_7 : decode (ab_C 85) 7 = .ok (.if_icmp .gt 20, 3) := by decide +kernel
theorem e85_7 {d : Nat} {l0 l1 l2 : Option Value} {s0 : Int32} {s1 : Int32} {σ : ab_St} {Q : Option Value → ab_St → Prop} : Ev d 85 7 [l0, l1, l2] [.int s0, .int s1] σ Q = if s0 < s1 then Ev d 85 27 [l0, l1, l2] [] σ Q else Ev d 85 10 [l0, l1, l2] [] σ Q := ev_B (c := s0 < s1) d85_7 rfl rfl rfl rfl rfl
theorem d85_10 : decode (ab_C 85) 10 = .ok (.iload_n 2, 1) := by decide +kernel
theorem e85_10 {d : Nat} {l0 l1 : Option Value} {x : Int32} {σ : ab_St} {Q : Option Value → ab_St → Prop} : Ev d 85 10 [l0, l1, some (.int x)] [] σ Q = Ev d 85 11 [l0, l1, some (.int x)] [.int x] σ Q := ev_A1 d85_10 rfl
theorem d85_11 : decode (ab_C 85) 11 = .ok (.ifCond .lt 16, 3) := by decide +kernel
theorem e85_11 {d : Nat} {l0 l1 l2 : Option Value} {s0 : Int32} {σ : ab_St} {Q : Option Value → ab_St → Prop} : Ev d 85 11 [l0, l1, l2] [.int s0] σ Q = if s0 < 0 then Ev d 85 27 [l0, l1, l2] [] σ Q else Ev d 85 14 [l0, l1, l2] [] σ Q := ev_B (c := s0 < 0) d85_11 rfl rfl rfl rfl rfl
theorem d85_14 : decode (ab_C 85) 14 = .ok (.iload_n 2, 1) := by decide +kernel
theorem e85_14 {d : Nat} {l0 l1 : Option Value} {x : Int32} {σ : ab_St} {Q : Option Value → ab_St → Prop} : Ev d 85 14 [l0, l1, some (.int x)] [] σ Q = Ev d 85 15 [l0, l1, some (.int x)] [.int x] σ Q := ev_A1 d85_14 rfl
theorem d85_15 : decode (ab_C 85) 15 = .ok (.iconst 1, 1) := by decide +kernel
theorem e85_15 {d : Nat} {l0 l1 l2 : Option Value} {s0 : Int32} {σ : ab_St} {Q : Option Value → ab_St → Prop} : Ev d 85 15 [l0, l1, l2] [.int s0] σ Q = Ev d 85 16 [l0, l1, l2] [.int 1, .int s0] σ Q := ev_A1 d85_15 rfl
theorem d85_16 : decode (ab_C 85) 16 = .ok (.aload_n 0, 1) := by decide +kernel
theorem e85_16 {d : Nat} {l1 l2 : Option Value} {x : Nat} {s0 : Int32} {s1 : Int32} {σ : ab_St} {Q : Option Value → ab_St → Prop} : Ev d 85 16 [some (.ref x), l1, l2] [.int s0, .int s1] σ Q = Ev d 85 17 [some (.ref x), l1, l2] [.ref x, .int s0, .int s1] σ Q := ev_A1 d85_16 rfl
theorem d85_17 : decode (ab_C 85) 17 = .ok (.getfield 26, 3) := by decide +kernel
theorem e85_17 {d : Nat} {l0 l1 l2 : Option Value} {s0 : Nat} {s1 : Int32} {s2 : Int32} {σ : ab_St} {Q : Option Value → ab_St → Prop} : Ev d 85 17 [l0, l1, l2] [.ref s0, .int s1, .int s2] σ Q = (ab_k s0 = 0 ∧ Ev d 85 20 [l0, l1, l2] [.ref (ab_r s0 2), .int s1, .int s2] σ Q) := ev_Hc (c := ab_k s0 = 0) d85_17 rfl rfl rfl rfl rfl rfl rfl rfl
theorem d85_20 : decode (ab_C 85) 20 = .ok (.getfield 101, 3) := by decide +kernel
theorem e85_20 {d : Nat} {l0 l1 l2 : Option Value} {s0 : Nat} {s1 : Int32} {s2 : Int32} {σ : ab_St} {Q : Option Value → ab_St → Prop} : Ev d 85 20 [l0, l1, l2] [.ref s0, .int s1, .int s2] σ Q = (ab_k s0 = 3 ∧ Ev d 85 23 [l0, l1, l2] [.int (σ.1 s0 4), .int s1, .int s2] σ Q) := ev_Hc (c := ab_k s0 = 3) d85_20 rfl rfl rfl rfl rfl rfl rfl rfl
theorem d85_23 : decode (ab_C 85) 23 = .ok (.ishl, 1) := by decide +kernel
theorem e85_23 {d : Nat} {l0 l1 l2 : Option Value} {s0 : Int32} {s1 : Int32} {s2 : Int32} {σ : ab_St} {Q : Option Value → ab_St → Prop} : Ev d 85 23 [l0, l1, l2] [.int s0, .int s1, .int s2] σ Q = Ev d 85 24 [l0, l1, l2] [.int (s1 <<< (s0 &&& 31)), .int s2] σ Q := ev_A2 d85_23 rfl rfl
theorem d85_24 : decode (ab_C 85) 24 = .ok (.if_icmp .lt 7, 3) := by decide +kernel
theorem e85_24 {d : Nat} {l0 l1 l2 : Option Value} {s0 : Int32} {s1 : Int32} {σ : ab_St} {Q : Option Value → ab_St → Prop} : Ev d 85 24 [l0, l1, l2] [.int s0, .int s1] σ Q = if s1 < s0 then Ev d 85 31 [l0, l1, l2] [] σ Q else Ev d 85 27 [l0, l1, l2] [] σ Q := ev_B (c := s1 < s0) d85_24 rfl rfl rfl rfl rfl
theorem d85_27 : decode (ab_C 85) 27 = .ok (.ldc2_w 203, 3) := by decide +kernel
theorem e85_27 {d : Nat} {l0 l1 l2 : Option Value} {σ : ab_St} {Q : Option Value → ab_St → Prop} : Ev d 85 27 [l0, l1, l2] [] σ Q = Ev d 85 30 [l0, l1, l2] [.long (-2)] σ Q := ev_A1 d85_27 rfl
theorem d85_30 : decode (ab_C 85) 30 = .ok (.lreturn, 1) := by decide +kernel
theorem e85_30 {d : Nat} {l0 l1 l2 : Option Value} {s0 : Int64} {σ : ab_St} {Q : Option Value → ab_St → Prop} : Ev d 85 30 [l0, l1, l2] [.long s0] σ Q = Q (some (.long s0)) σ := ev_E d85_30 rfl rfl rfl rfl rfl rfl rfl
theorem d85_31 : decode (ab_C 85) 31 = .ok (.aload_n 0, 1) := by decide +kernel
theorem e85_31 {d : Nat} {l1 l2 : Option Value} {x : Nat} {σ : ab_St} {Q : Option Value → ab_St → Prop} : Ev d 85 31 [some (.ref x), l1, l2] [] σ Q = Ev d 85 32 [some (.ref x), l1, l2] [.ref x] σ Q := ev_A1 d85_31 rfl
theorem d85_32 : decode (ab_C 85) 32 = .ok (.getfield 68, 3) := by decide +kernel
theorem e85_32 {d : Nat} {l0 l1 l2 : Option Value} {s0 : Nat} {σ : ab_St} {Q : Option Value → ab_St → Prop} : Ev d 85 32 [l0, l1, l2] [.ref s0] σ Q = (ab_k s0 = 0 ∧ Ev d 85 35 [l0, l1, l2] [.ref (ab_r s0 9)] σ Q) := ev_Hc (c := ab_k s0 = 0) d85_32 rfl rfl rfl rfl rfl rfl rfl rfl
theorem d85_35 : decode (ab_C 85) 35 = .ok (.aload_n 0, 1) := by decide +kernel
theorem e85_35 {d : Nat} {l1 l2 : Option Value} {x : Nat} {s0 : Nat} {σ : ab_St} {Q : Option Value → ab_St → Prop} : Ev d 85 35 [some (.ref x), l1, l2] [.ref s0] σ Q = Ev d 85 36 [some (.ref x), l1, l2] [.ref x, .ref s0] σ Q := ev_A1 d85_35 rfl
theorem d85_36 : decode (ab_C 85) 36 = .ok (.getfield 33, 3) := by decide +kernel
theorem e85_36 {d : Nat} {l0 l1 l2 : Option Value} {s0 : Nat} {s1 : Nat} {σ : ab_St} {Q : Option Value → ab_St → Prop} : Ev d 85 36 [l0, l1, l2] [.ref s0, .ref s1] σ Q = (ab_k s0 = 0 ∧ Ev d 85 39 [l0, l1, l2] [.ref (ab_r s0 3), .ref s1] σ Q) := ev_Hc (c := ab_k s0 = 0) d85_36 rfl rfl rfl rfl rfl rfl rfl rfl
theorem d85_39 : decode (ab_C 85) 39 = .ok (.iload_n 1, 1) := by decide +kernel
theorem e85_39 {d : Nat} {l0 l2 : Option Value} {x : Int32} {s0 : Nat} {s1 : Nat} {σ : ab_St} {Q : Option Value → ab_St → Prop} : Ev d 85 39 [l0, some (.int x), l2] [.ref s0, .ref s1] σ Q = Ev d 85 40 [l0, some (.int x), l2] [.int x, .ref s0, .ref s1] σ Q := ev_A1 d85_39 rfl
theorem d85_40 : decode (ab_C 85) 40 = .ok (.iload_n 2, 1) := by decide +kernel
theorem e85_40 {d : Nat} {l0 l1 : Option Value} {x : Int32} {s0 : Int32} {s1 : Nat} {s2 : Nat} {σ : ab_St} {Q : Option Value → ab_St → Prop} : Ev d 85 40 [l0, l1, some (.int x)] [.int s0, .ref s1, .ref s2] σ Q = Ev d 85 41 [l0, l1, some (.int x)] [.int x, .int s0, .ref s1, .ref s2] σ Q := ev_A1 d85_40 rfl
theorem d85_41 : decode (ab_C 85) 41 = .ok (.invokevirtual 205, 3) := by decide +kernel
theorem e85_41 {d : Nat} {l0 l1 l2 : Option Value} {s0 : Int32} {s1 : Int32} {s2 : Nat} {s3 : Nat} {σ : ab_St} {Q : Option Value → ab_St → Prop} : Ev (d + 1) 85 41 [l0, l1, l2] [.int s0, .int s1, .ref s2, .ref s3] σ Q = (ab_k s3 = 9 ∧ Ev d 86 0 [some (.ref s3), some (.ref s2), some (.int s1), some (.int s0), none, none, none, none] [] σ (fun r σ2 => Ev (d + 1) 85 44 [l0, l1, l2] (r.toList ++ []) σ2 Q)) := ev_KV (b := s3) (ls := [l0, l1, l2]) (st := [.int s0, .int s1, .ref s2, .ref s3]) (as := [.ref s2, .int s1, .int s0]) (rest := []) d85_41 rfl rfl rfl (Nat.le_of_ble_eq_true rfl) (Nat.le_of_ble_eq_true rfl) (Nat.le_of_ble_eq_true rfl) rfl rfl rfl rfl rfl rfl rfl
theorem d85_44 : decode (ab_C 85) 44 = .ok (.lreturn, 1) := by decide +kernel
theorem e85_44 {d : Nat} {l0 l1 l2 : Option Value} {s0 : Int64} {σ : ab_St} {Q : Option Value → ab_St → Prop} : Ev d 85 44 [l0, l1, l2] [.long s0] σ Q = Q (some (.long s0)) σ := ev_E d85_44 rfl rfl rfl rfl rfl rfl rfl
/-! SaidLeast$Guesses.waysWhileOut(LSaidLeast$State;II)J -/
theorem d86_0 : decode (ab_C 86) 0 = .ok (.aload_n 1, 1) := by decide +kernel
theorem e86_0 {d : Nat} {l0 l2 l3 l4 l5 l6 l7 : Option Value} {x : Nat} {σ : ab_St} {Q : Option Value → ab_St → Prop} : Ev d 86 0 [l0, some (.ref x), l2, l3, l4, l5, l6, l7] [] σ Q = Ev d 86 1 [l0, some (.ref x), l2, l3, l4, l5, l6, l7] [.ref x] σ Q := ev_A1 d86_0 rfl
theorem d86_1 : decode (ab_C 86) 1 = .ok (.getfield 26, 3) := by decide +kernel
theorem e86_1 {d : Nat} {l0 l1 l2 l3 l4 l5 l6 l7 : Option Value} {s0 : Nat} {σ : ab_St} {Q : Option Value → ab_St → Prop} : Ev d 86 1 [l0, l1, l2, l3, l4, l5, l6, l7] [.ref s0] σ Q = (ab_k s0 = 4 ∧ Ev d 86 4 [l0, l1, l2, l3, l4, l5, l6, l7] [.int (σ.1 s0 1)] σ Q) := ev_Hc (c := ab_k s0 = 4) d86_1 rfl rfl rfl rfl rfl rfl rfl rfl
theorem d86_4 : decode (ab_C 86) 4 = .ok (.ifCond .ne 17, 3) := by decide +kernel
theorem e86_4 {d : Nat} {l0 l1 l2 l3 l4 l5 l6 l7 : Option Value} {s0 : Int32} {σ : ab_St} {Q : Option Value → ab_St → Prop} : Ev d 86 4 [l0, l1, l2, l3, l4, l5, l6, l7] [.int s0] σ Q = if s0 = 0 then Ev d 86 7 [l0, l1, l2, l3, l4, l5, l6, l7] [] σ Q else Ev d 86 21 [l0, l1, l2, l3, l4, l5, l6, l7] [] σ Q := ev_B (c := s0 = 0) d86_4 rfl rfl rfl rfl rfl
theorem d86_7 : decode (ab_C 86) 7 = .ok (.iload_n 2, 1) := by decide +kernel
theorem e86_7 {d : Nat} {l0 l1 l3 l4 l5 l6 l7 : Option Value} {x : Int32} {σ : ab_St} {Q : Option Value → ab_St → Prop} : Ev d 86 7 [l0, l1, some (.int x), l3, l4, l5, l6, l7] [] σ Q = Ev d 86 8 [l0, l1, some (.int x), l3, l4, l5, l6, l7] [.int x] σ Q := ev_A1 d86_7 rfl
theorem d86_8 : decode (ab_C 86) 8 = .ok (.ifCond .ne 11, 3) := by decide +kernel
theorem e86_8 {d : Nat} {l0 l1 l2 l3 l4 l5 l6 l7 : Option Value} {s0 : Int32} {σ : ab_St} {Q : Option Value → ab_St → Prop} : Ev d 86 8 [l0, l1, l2, l3, l4, l5, l6, l7] [.int s0] σ Q = if s0 = 0 then Ev d 86 11 [l0, l1, l2, l3, l4, l5, l6, l7] [] σ Q else Ev d 86 19 [l0, l1, l2, l3, l4, l5, l6, l7] [] σ Q := ev_B (c := s0 = 0) d86_8 rfl rfl rfl rfl rfl
theorem d86_11 : decode (ab_C 86) 11 = .ok (.iload_n 3, 1) := by decide +kernel
theorem e86_11 {d : Nat} {l0 l1 l2 l4 l5 l6 l7 : Option Value} {x : Int32} {σ : ab_St} {Q : Option Value → ab_St → Prop} : Ev d 86 11 [l0, l1, l2, some (.int x), l4, l5, l6, l7] [] σ Q = Ev d 86 12 [l0, l1, l2, some (.int x), l4, l5, l6, l7] [.int x] σ Q := ev_A1 d86_11 rfl
theorem d86_12 : decode (ab_C 86) 12 = .ok (.ifCond .ne 7, 3) := by decide +kernel
theorem e86_12 {d : Nat} {l0 l1 l2 l3 l4 l5 l6 l7 : Option Value} {s0 : Int32} {σ : ab_St} {Q : Option Value → ab_St → Prop} : Ev d 86 12 [l0, l1, l2, l3, l4, l5, l6, l7] [.int s0] σ Q = if s0 = 0 then Ev d 86 15 [l0, l1, l2, l3, l4, l5, l6, l7] [] σ Q else Ev d 86 19 [l0, l1, l2, l3, l4, l5, l6, l7] [] σ Q := ev_B (c := s0 = 0) d86_12 rfl rfl rfl rfl rfl
theorem d86_15 : decode (ab_C 86) 15 = .ok (.lconst 1, 1) := by decide +kernel
theorem e86_15 {d : Nat} {l0 l1 l2 l3 l4 l5 l6 l7 : Option Value} {σ : ab_St} {Q : Option Value → ab_St → Prop} : Ev d 86 15 [l0, l1, l2, l3, l4, l5, l6, l7] [] σ Q = Ev d 86 16 [l0, l1, l2, l3, l4, l5, l6, l7] [.long 1] σ Q := ev_A1 d86_15 rfl
theorem d86_16 : decode (ab_C 86) 16 = .ok (.goto 4, 3) := by decide +kernel
theorem e86_16 {d : Nat} {l0 l1 l2 l3 l4 l5 l6 l7 : Option Value} {s0 : Int64} {σ : ab_St} {Q : Option Value → ab_St → Prop} : Ev d 86 16 [l0, l1, l2, l3, l4, l5, l6, l7] [.long s0] σ Q = Ev d 86 20 [l0, l1, l2, l3, l4, l5, l6, l7] [.long s0] σ Q := ev_J d86_16 rfl rfl rfl rfl rfl
theorem d86_19 : decode (ab_C 86) 19 = .ok (.lconst 0, 1) := by decide +kernel
theorem e86_19 {d : Nat} {l0 l1 l2 l3 l4 l5 l6 l7 : Option Value} {σ : ab_St} {Q : Option Value → ab_St → Prop} : Ev d 86 19 [l0, l1, l2, l3, l4, l5, l6, l7] [] σ Q = Ev d 86 20 [l0, l1, l2, l3, l4, l5, l6, l7] [.long 0] σ Q := ev_A1 d86_19 rfl
theorem d86_20 : decode (ab_C 86) 20 = .ok (.lreturn, 1) := by decide +kernel
theorem e86_20 {d : Nat} {l0 l1 l2 l3 l4 l5 l6 l7 : Option Value} {s0 : Int64} {σ : ab_St} {Q : Option Value → ab_St → Prop} : Ev d 86 20 [l0, l1, l2, l3, l4, l5, l6, l7] [.long s0] σ Q = Q (some (.long s0)) σ := ev_E d86_20 rfl rfl rfl rfl rfl rfl rfl
theorem d86_21 : decode (ab_C 86) 21 = .ok (.iload_n 3, 1) := by decide +kernel
theorem e86_21 {d : Nat} {l0 l1 l2 l4 l5 l6 l7 : Option Value} {x : Int32} {σ : ab_St} {Q : Option Value → ab_St → Prop} : Ev d 86 21 [l0, l1, l2, some (.int x), l4, l5, l6, l7] [] σ Q = Ev d 86 22 [l0, l1, l2, some (.int x), l4, l5, l6, l7] [.int x] σ Q := ev_A1 d86_21 rfl
theorem d86_22 : decode (ab_C 86) 22 = .ok (.invokestatic 30, 3) := by decide +kernel
theorem e86_22 {d : Nat} {l0 l1 l2 l3 l4 l5 l6 l7 : Option Value} {s0 : Int32} {σ : ab_St} {Q : Option Value → ab_St → Prop} : Ev (d + 1) 86 22 [l0, l1, l2, l3, l4, l5, l6, l7] [.int s0] σ Q = Ev d 87 0 [some (.int s0), none] [] σ (fun r σ2 => Ev (d + 1) 86 25 [l0, l1, l2, l3, l4, l5, l6, l7] (r.toList ++ []) σ2 Q) := ev_K0 (y := 87) (ls := [l0, l1, l2, l3, l4, l5, l6, l7]) (st := [.int s0]) (as := [.int s0]) (rest := []) d86_22 rfl rfl rfl rfl rfl rfl rfl rfl
theorem d86_25 : decode (ab_C 86) 25 = .ok (.istore 4, 2) := by decide +kernel
theorem e86_25 {d : Nat} {l0 l1 l2 l3 l4 l5 l6 l7 : Option Value} {s0 : Int32} {σ : ab_St} {Q : Option Value → ab_St → Prop} : Ev d 86 25 [l0, l1, l2, l3, l4, l5, l6, l7] [.int s0] σ Q = Ev d 86 27 [l0, l1, l2, l3, some (.int s0), l5, l6, l7] [] σ Q := ev_S d86_25 rfl rfl rfl rfl
theorem d86_27 : decode (ab_C 86) 27 = .ok (.iload 4, 2) := by decide +kernel
theorem e86_27 {d : Nat} {l0 l1 l2 l3 l5 l6 l7 : Option Value} {x : Int32} {σ : ab_St} {Q : Option Value → ab_St → Prop} : Ev d 86 27 [l0, l1, l2, l3, some (.int x), l5, l6, l7] [] σ Q = Ev d 86 29 [l0, l1, l2, l3, some (.int x), l5, l6, l7] [.int x] σ Q := ev_A1 d86_27 rfl
theorem d86_29 : decode (ab_C 86) 29 = .ok (.bipush (-9), 2) := by decide +kernel
theorem e86_29 {d : Nat} {l0 l1 l2 l3 l4 l5 l6 l7 : Option Value} {s0 : Int32} {σ : ab_St} {Q : Option Value → ab_St → Prop} : Ev d 86 29 [l0, l1, l2, l3, l4, l5, l6, l7] [.int s0] σ Q = Ev d 86 31 [l0, l1, l2, l3, l4, l5, l6, l7] [.int (-9), .int s0] σ Q := ev_A1 d86_29 rfl
theorem d86_31 : decode (ab_C 86) 31 = .ok (.if_icmp .eq 14, 3) := by decide +kernel
theorem e86_31 {d : Nat} {l0 l1 l2 l3 l4 l5 l6 l7 : Option Value} {s0 : Int32} {s1 : Int32} {σ : ab_St} {Q : Option Value → ab_St → Prop} : Ev d 86 31 [l0, l1, l2, l3, l4, l5, l6, l7] [.int s0, .int s1] σ Q = if s1 = s0 then Ev d 86 45 [l0, l1, l2, l3, l4, l5, l6, l7] [] σ Q else Ev d 86 34 [l0, l1, l2, l3, l4, l5, l6, l7] [] σ Q := ev_B (c := s1 = s0) d86_31 rfl rfl rfl rfl rfl
theorem d86_34 : decode (ab_C 86) 34 = .ok (.iload_n 3, 1) := by decide +kernel
theorem e86_34 {d : Nat} {l0 l1 l2 l4 l5 l6 l7 : Option Value} {x : Int32} {σ : ab_St} {Q : Option Value → ab_St → Prop} : Ev d 86 34 [l0, l1, l2, some (.int x), l4, l5, l6, l7] [] σ Q = Ev d 86 35 [l0, l1, l2, some (.int x), l4, l5, l6, l7] [.int x] σ Q := ev_A1 d86_34 rfl
theorem d86_35 : decode (ab_C 86) 35 = .ok (.aload_n 1, 1) := by decide +kernel
theorem e86_35 {d : Nat} {l0 l2 l3 l4 l5 l6 l7 : Option Value} {x : Nat} {s0 : Int32} {σ : ab_St} {Q : Option Value → ab_St → Prop} : Ev d 86 35 [l0, some (.ref x), l2, l3, l4, l5, l6, l7] [.int s0] σ Q = Ev d 86 36 [l0, some (.ref x), l2, l3, l4, l5, l6, l7] [.ref x, .int s0] σ Q := ev_A1 d86_35 rfl
theorem d86_36 : decode (ab_C 86) 36 = .ok (.getfield 26, 3) := by decide +kernel
theorem e86_36 {d : Nat} {l0 l1 l2 l3 l4 l5 l6 l7 : Option Value} {s0 : Nat} {s1 : Int32} {σ : ab_St} {Q : Option Value → ab_St → Prop} : Ev d 86 36 [l0, l1, l2, l3, l4, l5, l6, l7] [.ref s0, .int s1] σ Q = (ab_k s0 = 4 ∧ Ev d 86 39 [l0, l1, l2, l3, l4, l5, l6, l7] [.int (σ.1 s0 1), .int s1] σ Q) := ev_Hc (c := ab_k s0 = 4) d86_36 rfl rfl rfl rfl rfl rfl rfl rfl
theorem d86_39 : decode (ab_C 86) 39 = .ok (.iconst (-1), 1) := by decide +kernel
theorem e86_39 {d : Nat} {l0 l1 l2 l3 l4 l5 l6 l7 : Option Value} {s0 : Int32} {s1 : Int32} {σ : ab_St} {Q : Option Value → ab_St → Prop} : Ev d 86 39 [l0, l1, l2, l3, l4, l5, l6, l7] [.int s0, .int s1] σ Q = Ev d 86 40 [l0, l1, l2, l3, l4, l5, l6, l7] [.int (-1), .int s0, .int s1] σ Q := ev_A1 d86_39 rfl
theorem d86_40 : decode (ab_C 86) 40 = .ok (.ixor, 1) := by decide +kernel
theorem e86_40 {d : Nat} {l0 l1 l2 l3 l4 l5 l6 l7 : Option Value} {s0 : Int32} {s1 : Int32} {s2 : Int32} {σ : ab_St} {Q : Option Value → ab_St → Prop} : Ev d 86 40 [l0, l1, l2, l3, l4, l5, l6, l7] [.int s0, .int s1, .int s2] σ Q = Ev d 86 41 [l0, l1, l2, l3, l4, l5, l6, l7] [.int (s1 ^^^ s0), .int s2] σ Q := ev_A2 d86_40 rfl rfl
theorem d86_41 : decode (ab_C 86) 41 = .ok (.iand, 1) := by decide +kernel
theorem e86_41 {d : Nat} {l0 l1 l2 l3 l4 l5 l6 l7 : Option Value} {s0 : Int32} {s1 : Int32} {σ : ab_St} {Q : Option Value → ab_St → Prop} : Ev d 86 41 [l0, l1, l2, l3, l4, l5, l6, l7] [.int s0, .int s1] σ Q = Ev d 86 42 [l0, l1, l2, l3, l4, l5, l6, l7] [.int (s1 &&& s0)] σ Q := ev_A2 d86_41 rfl rfl
theorem d86_42 : decode (ab_C 86) 42 = .ok (.ifCond .eq 5, 3) := by decide +kernel
theorem e86_42 {d : Nat} {l0 l1 l2 l3 l4 l5 l6 l7 : Option Value} {s0 : Int32} {σ : ab_St} {Q : Option Value → ab_St → Prop} : Ev d 86 42 [l0, l1, l2, l3, l4, l5, l6, l7] [.int s0] σ Q = if s0 = 0 then Ev d 86 47 [l0, l1, l2, l3, l4, l5, l6, l7] [] σ Q else Ev d 86 45 [l0, l1, l2, l3, l4, l5, l6, l7] [] σ Q := ev_B (c := s0 = 0) d86_42 rfl rfl rfl rfl rfl
theorem d86_45 : decode (ab_C 86) 45 = .ok (.lconst 0, 1) := by decide +kernel
theorem e86_45 {d : Nat} {l0 l1 l2 l3 l4 l5 l6 l7 : Option Value} {σ : ab_St} {Q : Option Value → ab_St → Prop} : Ev d 86 45 [l0, l1, l2, l3, l4, l5, l6, l7] [] σ Q = Ev d 86 46 [l0, l1, l2, l3, l4, l5, l6, l7] [.long 0] σ Q := ev_A1 d86_45 rfl
theorem d86_46 : decode (ab_C 86) 46 = .ok (.lreturn, 1) := by decide +kernel
theorem e86_46 {d : Nat} {l0 l1 l2 l3 l4 l5 l6 l7 : Option Value} {s0 : Int64} {σ : ab_St} {Q : Option Value → ab_St → Prop} : Ev d 86 46 [l0, l1, l2, l3, l4, l5, l6, l7] [.long s0] σ Q = Q (some (.long s0)) σ := ev_E d86_46 rfl rfl rfl rfl rfl rfl rfl
theorem d86_47 : decode (ab_C 86) 47 = .ok (.lconst 0, 1) := by decide +kernel
theorem e86_47 {d : Nat} {l0 l1 l2 l3 l4 l5 l6 l7 : Option Value} {σ : ab_St} {Q : Option Value → ab_St → Prop} : Ev d 86 47 [l0, l1, l2, l3, l4, l5, l6, l7] [] σ Q = Ev d 86 48 [l0, l1, l2, l3, l4, l5, l6, l7] [.long 0] σ Q := ev_A1 d86_47 rfl
theorem d86_48 : decode (ab_C 86) 48 = .ok (.lstore 5, 2) := by decide +kernel
theorem e86_48 {d : Nat} {l0 l1 l2 l3 l4 l5 l6 l7 : Option Value} {s0 : Int64} {σ : ab_St} {Q : Option Value → ab_St → Prop} : Ev d 86 48 [l0, l1, l2, l3, l4, l5, l6, l7] [.long s0] σ Q = Ev d 86 50 [l0, l1, l2, l3, l4, some (.long s0), none, l7] [] σ Q := ev_S d86_48 rfl rfl rfl rfl
theorem d86_50 : decode (ab_C 86) 50 = .ok (.iconst 0, 1) := by decide +kernel
theorem e86_50 {d : Nat} {l0 l1 l2 l3 l4 l5 l6 l7 : Option Value} {σ : ab_St} {Q : Option Value → ab_St → Prop} : Ev d 86 50 [l0, l1, l2, l3, l4, l5, l6, l7] [] σ Q = Ev d 86 51 [l0, l1, l2, l3, l4, l5, l6, l7] [.int 0] σ Q := ev_A1 d86_50 rfl
theorem d86_51 : decode (ab_C 86) 51 = .ok (.istore 7, 2) := by decide +kernel
theorem e86_51 {d : Nat} {l0 l1 l2 l3 l4 l5 l6 l7 : Option Value} {s0 : Int32} {σ : ab_St} {Q : Option Value → ab_St → Prop} : Ev d 86 51 [l0, l1, l2, l3, l4, l5, l6, l7] [.int s0] σ Q = Ev d 86 53 [l0, l1, l2, l3, l4, l5, l6, some (.int s0)] [] σ Q := ev_S d86_51 rfl rfl rfl rfl
theorem d86_53 : decode (ab_C 86) 53 = .ok (.iload 7, 2) := by decide +kernel
theorem e86_53 {d : Nat} {l0 l1 l2 l3 l4 l5 l6 : Option Value} {x : Int32} {σ : ab_St} {Q : Option Value → ab_St → Prop} : Ev d 86 53 [l0, l1, l2, l3, l4, l5, l6, some (.int x)] [] σ Q = Ev d 86 55 [l0, l1, l2, l3, l4, l5, l6, some (.int x)] [.int x] σ Q := ev_A1 d86_53 rfl
theorem d86_55 : decode (ab_C 86) 55 = .ok (.bipush 9, 2) := by decide +kernel
theorem e86_55 {d : Nat} {l0 l1 l2 l3 l4 l5 l6 l7 : Option Value} {s0 : Int32} {σ : ab_St} {Q : Option Value → ab_St → Prop} : Ev d 86 55 [l0, l1, l2, l3, l4, l5, l6, l7] [.int s0] σ Q = Ev d 86 57 [l0, l1, l2, l3, l4, l5, l6, l7] [.int 9, .int s0] σ Q := ev_A1 d86_55 rfl
theorem d86_57 : decode (ab_C 86) 57 = .ok (.if_icmp .gt 31, 3) := by decide +kernel
theorem e86_57 {d : Nat} {l0 l1 l2 l3 l4 l5 l6 l7 : Option Value} {s0 : Int32} {s1 : Int32} {σ : ab_St} {Q : Option Value → ab_St → Prop} : Ev d 86 57 [l0, l1, l2, l3, l4, l5, l6, l7] [.int s0, .int s1] σ Q = if s0 < s1 then Ev d 86 88 [l0, l1, l2, l3, l4, l5, l6, l7] [] σ Q else Ev d 86 60 [l0, l1, l2, l3, l4, l5, l6, l7] [] σ Q := ev_B (c := s0 < s1) d86_57 rfl rfl rfl rfl rfl
theorem d86_60 : decode (ab_C 86) 60 = .ok (.lload 5, 2) := by decide +kernel
theorem e86_60 {d : Nat} {l0 l1 l2 l3 l4 l7 : Option Value} {x : Int64} {σ : ab_St} {Q : Option Value → ab_St → Prop} : Ev d 86 60 [l0, l1, l2, l3, l4, some (.long x), none, l7] [] σ Q = Ev d 86 62 [l0, l1, l2, l3, l4, some (.long x), none, l7] [.long x] σ Q := ev_A1 d86_60 rfl
theorem d86_62 : decode (ab_C 86) 62 = .ok (.aload_n 0, 1) := by decide +kernel
theorem e86_62 {d : Nat} {l1 l2 l3 l4 l5 l6 l7 : Option Value} {x : Nat} {s0 : Int64} {σ : ab_St} {Q : Option Value → ab_St → Prop} : Ev d 86 62 [some (.ref x), l1, l2, l3, l4, l5, l6, l7] [.long s0] σ Q = Ev d 86 63 [some (.ref x), l1, l2, l3, l4, l5, l6, l7] [.ref x, .long s0] σ Q := ev_A1 d86_62 rfl
theorem d86_63 : decode (ab_C 86) 63 = .ok (.aload_n 1, 1) := by decide +kernel
theorem e86_63 {d : Nat} {l0 l2 l3 l4 l5 l6 l7 : Option Value} {x : Nat} {s0 : Nat} {s1 : Int64} {σ : ab_St} {Q : Option Value → ab_St → Prop} : Ev d 86 63 [l0, some (.ref x), l2, l3, l4, l5, l6, l7] [.ref s0, .long s1] σ Q = Ev d 86 64 [l0, some (.ref x), l2, l3, l4, l5, l6, l7] [.ref x, .ref s0, .long s1] σ Q := ev_A1 d86_63 rfl
theorem d86_64 : decode (ab_C 86) 64 = .ok (.iload_n 2, 1) := by decide +kernel
theorem e86_64 {d : Nat} {l0 l1 l3 l4 l5 l6 l7 : Option Value} {x : Int32} {s0 : Nat} {s1 : Nat} {s2 : Int64} {σ : ab_St} {Q : Option Value → ab_St → Prop} : Ev d 86 64 [l0, l1, some (.int x), l3, l4, l5, l6, l7] [.ref s0, .ref s1, .long s2] σ Q = Ev d 86 65 [l0, l1, some (.int x), l3, l4, l5, l6, l7] [.int x, .ref s0, .ref s1, .long s2] σ Q := ev_A1 d86_64 rfl
theorem d86_65 : decode (ab_C 86) 65 = .ok (.iload_n 3, 1) := by decide +kernel
theorem e86_65 {d : Nat} {l0 l1 l2 l4 l5 l6 l7 : Option Value} {x : Int32} {s0 : Int32} {s1 : Nat} {s2 : Nat} {s3 : Int64} {σ : ab_St} {Q : Option Value → ab_St → Prop} : Ev d 86 65 [l0, l1, l2, some (.int x), l4, l5, l6, l7] [.int s0, .ref s1, .ref s2, .long s3] σ Q = Ev d 86 66 [l0, l1, l2, some (.int x), l4, l5, l6, l7] [.int x, .int s0, .ref s1, .ref s2, .long s3] σ Q := ev_A1 d86_65 rfl
theorem d86_66 : decode (ab_C 86) 66 = .ok (.aload_n 1, 1) := by decide +kernel
theorem e86_66 {d : Nat} {l0 l2 l3 l4 l5 l6 l7 : Option Value} {x : Nat} {s0 : Int32} {s1 : Int32} {s2 : Nat} {s3 : Nat} {s4 : Int64} {σ : ab_St} {Q : Option Value → ab_St → Prop} : Ev d 86 66 [l0, some (.ref x), l2, l3, l4, l5, l6, l7] [.int s0, .int s1, .ref s2, .ref s3, .long s4] σ Q = Ev d 86 67 [l0, some (.ref x), l2, l3, l4, l5, l6, l7] [.ref x, .int s0, .int s1, .ref s2, .ref s3, .long s4] σ Q := ev_A1 d86_66 rfl
theorem d86_67 : decode (ab_C 86) 67 = .ok (.getfield 34, 3) := by decide +kernel
theorem e86_67 {d : Nat} {l0 l1 l2 l3 l4 l5 l6 l7 : Option Value} {s0 : Nat} {s1 : Int32} {s2 : Int32} {s3 : Nat} {s4 : Nat} {s5 : Int64} {σ : ab_St} {Q : Option Value → ab_St → Prop} : Ev d 86 67 [l0, l1, l2, l3, l4, l5, l6, l7] [.ref s0, .int s1, .int s2, .ref s3, .ref s4, .long s5] σ Q = (ab_k s0 = 4 ∧ Ev d 86 70 [l0, l1, l2, l3, l4, l5, l6, l7] [.ref (ab_r s0 0), .int s1, .int s2, .ref s3, .ref s4, .long s5] σ Q) := ev_Hc (c := ab_k s0 = 4) d86_67 rfl rfl rfl rfl rfl rfl rfl rfl
theorem d86_70 : decode (ab_C 86) 70 = .ok (.iload 4, 2) := by decide +kernel
theorem e86_70 {d : Nat} {l0 l1 l2 l3 l5 l6 l7 : Option Value} {x : Int32} {s0 : Nat} {s1 : Int32} {s2 : Int32} {s3 : Nat} {s4 : Nat} {s5 : Int64} {σ : ab_St} {Q : Option Value → ab_St → Prop} : Ev d 86 70 [l0, l1, l2, l3, some (.int x), l5, l6, l7] [.ref s0, .int s1, .int s2, .ref s3, .ref s4, .long s5] σ Q = Ev d 86 72 [l0, l1, l2, l3, some (.int x), l5, l6, l7] [.int x, .ref s0, .int s1, .int s2, .ref s3, .ref s4, .long s5] σ Q := ev_A1 d86_70 rfl
theorem d86_72 : decode (ab_C 86) 72 = .ok (.iaload, 1) := by decide +kernel
theorem e86_72 {d : Nat} {l0 l1 l2 l3 l4 l5 l6 l7 : Option Value} {s0 : Int32} {s1 : Nat} {s2 : Int32} {s3 : Int32} {s4 : Nat} {s5 : Nat} {s6 : Int64} {σ : ab_St} {Q : Option Value → ab_St → Prop} : Ev d 86 72 [l0, l1, l2, l3, l4, l5, l6, l7] [.int s0, .ref s1, .int s2, .int s3, .ref s4, .ref s5, .long s6] σ Q = ((ab_k s1 = 100 ∧ ab_in s0 (ab_n s1)) ∧ Ev d 86 73 [l0, l1, l2, l3, l4, l5, l6, l7] [.int (σ.1 s1 s0.toNatClampNeg), .int s2, .int s3, .ref s4, .ref s5, .long s6] σ Q) := ev_Hc (c := ab_k s1 = 100 ∧ ab_in s0 (ab_n s1)) d86_72 rfl rfl rfl rfl rfl rfl rfl rfl
theorem d86_73 : decode (ab_C 86) 73 = .ok (.iload 7, 2) := by decide +kernel
theorem e86_73 {d : Nat} {l0 l1 l2 l3 l4 l5 l6 : Option Value} {x : Int32} {s0 : Int32} {s1 : Int32} {s2 : Int32} {s3 : Nat} {s4 : Nat} {s5 : Int64} {σ : ab_St} {Q : Option Value → ab_St → Prop} : Ev d 86 73 [l0, l1, l2, l3, l4, l5, l6, some (.int x)] [.int s0, .int s1, .int s2, .ref s3, .ref s4, .long s5] σ Q = Ev d 86 75 [l0, l1, l2, l3, l4, l5, l6, some (.int x)] [.int x, .int s0, .int s1, .int s2, .ref s3, .ref s4, .long s5] σ Q := ev_A1 d86_73 rfl
theorem d86_75 : decode (ab_C 86) 75 = .ok (.iadd, 1) := by decide +kernel
theorem e86_75 {d : Nat} {l0 l1 l2 l3 l4 l5 l6 l7 : Option Value} {s0 : Int32} {s1 : Int32} {s2 : Int32} {s3 : Int32} {s4 : Nat} {s5 : Nat} {s6 : Int64} {σ : ab_St} {Q : Option Value → ab_St → Prop} : Ev d 86 75 [l0, l1, l2, l3, l4, l5, l6, l7] [.int s0, .int s1, .int s2, .int s3, .ref s4, .ref s5, .long s6] σ Q = Ev d 86 76 [l0, l1, l2, l3, l4, l5, l6, l7] [.int (s1 + s0), .int s2, .int s3, .ref s4, .ref s5, .long s6] σ Q := ev_A2 d86_75 rfl rfl
theorem d86_76 : decode (ab_C 86) 76 = .ok (.invokevirtual 38, 3) := by decide +kernel
theorem e86_76 {d : Nat} {l0 l1 l2 l3 l4 l5 l6 l7 : Option Value} {s0 : Int32} {s1 : Int32} {s2 : Int32} {s3 : Nat} {s4 : Nat} {s5 : Int64} {σ : ab_St} {Q : Option Value → ab_St → Prop} : Ev (d + 1) 86 76 [l0, l1, l2, l3, l4, l5, l6, l7] [.int s0, .int s1, .int s2, .ref s3, .ref s4, .long s5] σ Q = (ab_k s4 = 9 ∧ Ev d 88 0 [some (.ref s4), some (.ref s3), some (.int s2), some (.int s1), some (.int s0), none, none, none, none, none] [] σ (fun r σ2 => Ev (d + 1) 86 79 [l0, l1, l2, l3, l4, l5, l6, l7] (r.toList ++ [.long s5]) σ2 Q)) := ev_KV (b := s4) (ls := [l0, l1, l2, l3, l4, l5, l6, l7]) (st := [.int s0, .int s1, .int s2, .ref s3, .ref s4, .long s5]) (as := [.ref s3, .int s2, .int s1, .int s0]) (rest := [.long s5]) d86_76 rfl rfl rfl (Nat.le_of_ble_eq_true rfl) (Nat.le_of_ble_eq_true rfl) (Nat.le_of_ble_eq_true rfl) rfl rfl rfl rfl rfl rfl rfl
theorem d86_79 : decode (ab_C 86) 79 = .ok (.ladd, 1) := by decide +kernel
theorem e86_79 {d : Nat} {l0 l1 l2 l3 l4 l5 l6 l7 : Option Value} {s0 : Int64} {s1 : Int64} {σ : ab_St} {Q : Option Value → ab_St → Prop} : Ev d 86 79 [l0, l1, l2, l3, l4, l5, l6, l7] [.long s0, .long s1] σ Q = Ev d 86 80 [l0, l1, l2, l3, l4, l5, l6, l7] [.long (s1 + s0)] σ Q := ev_A2 d86_79 rfl rfl
theorem d86_80 : decode (ab_C 86) 80 = .ok (.lstore 5, 2) := by decide +kernel
theorem e86_80 {d : Nat} {l0 l1 l2 l3 l4 l5 l6 l7 : Option Value} {s0 : Int64} {σ : ab_St} {Q : Option Value → ab_St → Prop} : Ev d 86 80 [l0, l1, l2, l3, l4, l5, l6, l7] [.long s0] σ Q = Ev d 86 82 [l0, l1, l2, l3, l4, some (.long s0), none, l7] [] σ Q := ev_S d86_80 rfl rfl rfl rfl
theorem d86_82 : decode (ab_C 86) 82 = .ok (.iinc 7 1, 3) := by decide +kernel
theorem e86_82 {d : Nat} {l0 l1 l2 l3 l4 l5 l6 : Option Value} {x : Int32} {σ : ab_St} {Q : Option Value → ab_St → Prop} : Ev d 86 82 [l0, l1, l2, l3, l4, l5, l6, some (.int x)] [] σ Q = Ev d 86 85 [l0, l1, l2, l3, l4, l5, l6, some (.int (x + 1))] [] σ Q := ev_S d86_82 rfl rfl rfl rfl
theorem d86_85 : decode (ab_C 86) 85 = .ok (.goto (-32), 3) := by decide +kernel
theorem e86_85 {d : Nat} {l0 l1 l2 l3 l4 l5 l6 l7 : Option Value} {σ : ab_St} {Q : Option Value → ab_St → Prop} : Ev d 86 85 [l0, l1, l2, l3, l4, l5, l6, l7] [] σ Q = Ev d 86 53 [l0, l1, l2, l3, l4, l5, l6, l7] [] σ Q := ev_J d86_85 rfl rfl rfl rfl rfl
theorem d86_88 : decode (ab_C 86) 88 = .ok (.lload 5, 2) := by decide +kernel
theorem e86_88 {d : Nat} {l0 l1 l2 l3 l4 l7 : Option Value} {x : Int64} {σ : ab_St} {Q : Option Value → ab_St → Prop} : Ev d 86 88 [l0, l1, l2, l3, l4, some (.long x), none, l7] [] σ Q = Ev d 86 90 [l0, l1, l2, l3, l4, some (.long x), none, l7] [.long x] σ Q := ev_A1 d86_88 rfl
theorem d86_90 : decode (ab_C 86) 90 = .ok (.lreturn, 1) := by decide +kernel
theorem e86_90 {d : Nat} {l0 l1 l2 l3 l4 l5 l6 l7 : Option Value} {s0 : Int64} {σ : ab_St} {Q : Option Value → ab_St → Prop} : Ev d 86 90 [l0, l1, l2, l3, l4, l5, l6, l7] [.long s0] σ Q = Q (some (.long s0)) σ := ev_E d86_90 rfl rfl rfl rfl rfl rfl rfl
/-! SaidLeast.firstOf(I)I -/
theorem d87_0 : decode (ab_C 87) 0 = .ok (.iconst 0, 1) := by decide +kernel
theorem e87_0 {d : Nat} {l0 l1 : Option Value} {σ : ab_St} {Q : Option Value → ab_St → Prop} : Ev d 87 0 [l0, l1] [] σ Q = Ev d 87 1 [l0, l1] [.int 0] σ Q := ev_A1 d87_0 rfl
theorem d87_1 : decode (ab_C 87) 1 = .ok (.istore_n 1, 1) := by decide +kernel
theorem e87_1 {d : Nat} {l0 l1 : Option Value} {s0 : Int32} {σ : ab_St} {Q : Option Value → ab_St → Prop} : Ev d 87 1 [l0, l1] [.int s0] σ Q = Ev d 87 2 [l0, some (.int s0)] [] σ Q := ev_S d87_1 rfl rfl rfl rfl
theorem d87_2 : decode (ab_C 87) 2 = .ok (.iload_n 1, 1) := by decide +kernel
theorem e87_2 {d : Nat} {l0 : Option Value} {x : Int32} {σ : ab_St} {Q : Option Value → ab_St → Prop} : Ev d 87 2 [l0, some (.int x)] [] σ Q = Ev d 87 3 [l0, some (.int x)] [.int x] σ Q := ev_A1 d87_2 rfl
theorem d87_3 : decode (ab_C 87) 3 = .ok (.bipush 6, 2) := by decide +kernel
theorem e87_3 {d : Nat} {l0 l1 : Option Value} {s0 : Int32} {σ : ab_St} {Q : Option Value → ab_St → Prop} : Ev d 87 3 [l0, l1] [.int s0] σ Q = Ev d 87 5 [l0, l1] [.int 6, .int s0] σ Q := ev_A1 d87_3 rfl
theorem d87_5 : decode (ab_C 87) 5 = .ok (.if_icmp .ge 19, 3) := by decide +kernel
theorem e87_5 {d : Nat} {l0 l1 : Option Value} {s0 : Int32} {s1 : Int32} {σ : ab_St} {Q : Option Value → ab_St → Prop} : Ev d 87 5 [l0, l1] [.int s0, .int s1] σ Q = if s0 ≤ s1 then Ev d 87 24 [l0, l1] [] σ Q else Ev d 87 8 [l0, l1] [] σ Q := ev_B (c := s0 ≤ s1) d87_5 rfl rfl rfl rfl rfl
theorem d87_8 : decode (ab_C 87) 8 = .ok (.iload_n 0, 1) := by decide +kernel
theorem e87_8 {d : Nat} {l1 : Option Value} {x : Int32} {σ : ab_St} {Q : Option Value → ab_St → Prop} : Ev d 87 8 [some (.int x), l1] [] σ Q = Ev d 87 9 [some (.int x), l1] [.int x] σ Q := ev_A1 d87_8 rfl
theorem d87_9 : decode (ab_C 87) 9 = .ok (.iload_n 1, 1) := by decide +kernel
theorem e87_9 {d : Nat} {l0 : Option Value} {x : Int32} {s0 : Int32} {σ : ab_St} {Q : Option Value → ab_St → Prop} : Ev d 87 9 [l0, some (.int x)] [.int s0] σ Q = Ev d 87 10 [l0, some (.int x)] [.int x, .int s0] σ Q := ev_A1 d87_9 rfl
theorem d87_10 : decode (ab_C 87) 10 = .ok (.invokestatic 141, 3) := by decide +kernel
theorem e87_10 {d : Nat} {l0 l1 : Option Value} {s0 : Int32} {s1 : Int32} {σ : ab_St} {Q : Option Value → ab_St → Prop} : Ev (d + 1) 87 10 [l0, l1] [.int s0, .int s1] σ Q = Ev d 32 0 [some (.int s1), some (.int s0)] [] σ (fun r σ2 => Ev (d + 1) 87 13 [l0, l1] (r.toList ++ []) σ2 Q) := ev_K0 (y := 32) (ls := [l0, l1]) (st := [.int s0, .int s1]) (as := [.int s1, .int s0]) (rest := []) d87_10 rfl rfl rfl rfl rfl rfl rfl rfl
theorem d87_13 : decode (ab_C 87) 13 = .ok (.ifCond .eq 5, 3) := by decide +kernel
theorem e87_13 {d : Nat} {l0 l1 : Option Value} {s0 : Int32} {σ : ab_St} {Q : Option Value → ab_St → Prop} : Ev d 87 13 [l0, l1] [.int s0] σ Q = if s0 = 0 then Ev d 87 18 [l0, l1] [] σ Q else Ev d 87 16 [l0, l1] [] σ Q := ev_B (c := s0 = 0) d87_13 rfl rfl rfl rfl rfl
theorem d87_16 : decode (ab_C 87) 16 = .ok (.iload_n 1, 1) := by decide +kernel
theorem e87_16 {d : Nat} {l0 : Option Value} {x : Int32} {σ : ab_St} {Q : Option Value → ab_St → Prop} : Ev d 87 16 [l0, some (.int x)] [] σ Q = Ev d 87 17 [l0, some (.int x)] [.int x] σ Q := ev_A1 d87_16 rfl
theorem d87_17 : decode (ab_C 87) 17 = .ok (.ireturn, 1) := by decide +kernel
theorem e87_17 {d : Nat} {l0 l1 : Option Value} {s0 : Int32} {σ : ab_St} {Q : Option Value → ab_St → Prop} : Ev d 87 17 [l0, l1] [.int s0] σ Q = Q (some (.int s0)) σ := ev_E d87_17 rfl rfl rfl rfl rfl rfl rfl
theorem d87_18 : decode (ab_C 87) 18 = .ok (.iinc 1 1, 3) := by decide +kernel
theorem e87_18 {d : Nat} {l0 : Option Value} {x : Int32} {σ : ab_St} {Q : Option Value → ab_St → Prop} : Ev d 87 18 [l0, some (.int x)] [] σ Q = Ev d 87 21 [l0, some (.int (x + 1))] [] σ Q := ev_S d87_18 rfl rfl rfl rfl
theorem d87_21 : decode (ab_C 87) 21 = .ok (.goto (-19), 3) := by decide +kernel
theorem e87_21 {d : Nat} {l0 l1 : Option Value} {σ : ab_St} {Q : Option Value → ab_St → Prop} : Ev d 87 21 [l0, l1] [] σ Q = Ev d 87 2 [l0, l1] [] σ Q := ev_J d87_21 rfl rfl rfl rfl rfl
theorem d87_24 : decode (ab_C 87) 24 = .ok (.bipush (-9), 2) := by decide +kernel
theorem e87_24 {d : Nat} {l0 l1 : Option Value} {σ : ab_St} {Q : Option Value → ab_St → Prop} : Ev d 87 24 [l0, l1] [] σ Q = Ev d 87 26 [l0, l1] [.int (-9)] σ Q := ev_A1 d87_24 rfl
theorem d87_26 : decode (ab_C 87) 26 = .ok (.ireturn, 1) := by decide +kernel
theorem e87_26 {d : Nat} {l0 l1 : Option Value} {s0 : Int32} {σ : ab_St} {Q : Option Value → ab_St → Prop} : Ev d 87 26 [l0, l1] [.int s0] σ Q = Q (some (.int s0)) σ := ev_E d87_26 rfl rfl rfl rfl rfl rfl rfl
/-! SaidLeast$Guesses.waysAtLevel(LSaidLeast$State;III)J -/
theorem d88_0 : decode (ab_C 88) 0 = .ok (.aload_n 0, 1) := by decide +kernel
theorem e88_0 {d : Nat} {l1 l2 l3 l4 l5 l6 l7 l8 l9 : Option Value} {x : Nat} {σ : ab_St} {Q : Option Value → ab_St → Prop} : Ev d 88 0 [some (.ref x), l1, l2, l3, l4, l5, l6, l7, l8, l9] [] σ Q = Ev d 88 1 [some (.ref x), l1, l2, l3, l4, l5, l6, l7, l8, l9] [.ref x] σ Q := ev_A1 d88_0 rfl
theorem d88_1 : decode (ab_C 88) 1 = .ok (.getfield 9, 3) := by decide +kernel
theorem e88_1 {d : Nat} {l0 l1 l2 l3 l4 l5 l6 l7 l8 l9 : Option Value} {s0 : Nat} {σ : ab_St} {Q : Option Value → ab_St → Prop} : Ev d 88 1 [l0, l1, l2, l3, l4, l5, l6, l7, l8, l9] [.ref s0] σ Q = (ab_k s0 = 9 ∧ Ev d 88 4 [l0, l1, l2, l3, l4, l5, l6, l7, l8, l9] [.ref (ab_r s0 0)] σ Q) := ev_Hc (c := ab_k s0 = 9) d88_1 rfl rfl rfl rfl rfl rfl rfl rfl
theorem d88_4 : decode (ab_C 88) 4 = .ok (.lconst 0, 1) := by decide +kernel
theorem e88_4 {d : Nat} {l0 l1 l2 l3 l4 l5 l6 l7 l8 l9 : Option Value} {s0 : Nat} {σ : ab_St} {Q : Option Value → ab_St → Prop} : Ev d 88 4 [l0, l1, l2, l3, l4, l5, l6, l7, l8, l9] [.ref s0] σ Q = Ev d 88 5 [l0, l1, l2, l3, l4, l5, l6, l7, l8, l9] [.long 0, .ref s0] σ Q := ev_A1 d88_4 rfl
theorem d88_5 : decode (ab_C 88) 5 = .ok (.invokestatic 42, 3) := by decide +kernel
theorem e88_5 {d : Nat} {l0 l1 l2 l3 l4 l5 l6 l7 l8 l9 : Option Value} {s0 : Int64} {s1 : Nat} {σ : ab_St} {Q : Option Value → ab_St → Prop} : Ev (d + 1) 88 5 [l0, l1, l2, l3, l4, l5, l6, l7, l8, l9] [.long s0, .ref s1] σ Q = Ev d 89 0 [some (.ref s1), some (.long s0), none, none, none] [] σ (fun r σ2 => Ev (d + 1) 88 8 [l0, l1, l2, l3, l4, l5, l6, l7, l8, l9] (r.toList ++ []) σ2 Q) := ev_K0 (y := 89) (ls := [l0, l1, l2, l3, l4, l5, l6, l7, l8, l9]) (st := [.long s0, .ref s1]) (as := [.ref s1, .long s0]) (rest := []) d88_5 rfl rfl rfl rfl rfl rfl rfl rfl
theorem d88_8 : decode (ab_C 88) 8 = .ok (.aload_n 0, 1) := by decide +kernel
theorem e88_8 {d : Nat} {l1 l2 l3 l4 l5 l6 l7 l8 l9 : Option Value} {x : Nat} {σ : ab_St} {Q : Option Value → ab_St → Prop} : Ev d 88 8 [some (.ref x), l1, l2, l3, l4, l5, l6, l7, l8, l9] [] σ Q = Ev d 88 9 [some (.ref x), l1, l2, l3, l4, l5, l6, l7, l8, l9] [.ref x] σ Q := ev_A1 d88_8 rfl
theorem d88_9 : decode (ab_C 88) 9 = .ok (.getfield 9, 3) := by decide +kernel
theorem e88_9 {d : Nat} {l0 l1 l2 l3 l4 l5 l6 l7 l8 l9 : Option Value} {s0 : Nat} {σ : ab_St} {Q : Option Value → ab_St → Prop} : Ev d 88 9 [l0, l1, l2, l3, l4, l5, l6, l7, l8, l9] [.ref s0] σ Q = (ab_k s0 = 9 ∧ Ev d 88 12 [l0, l1, l2, l3, l4, l5, l6, l7, l8, l9] [.ref (ab_r s0 0)] σ Q) := ev_Hc (c := ab_k s0 = 9) d88_9 rfl rfl rfl rfl rfl rfl rfl rfl
theorem d88_12 : decode (ab_C 88) 12 = .ok (.iconst 0, 1) := by decide +kernel
theorem e88_12 {d : Nat} {l0 l1 l2 l3 l4 l5 l6 l7 l8 l9 : Option Value} {s0 : Nat} {σ : ab_St} {Q : Option Value → ab_St → Prop} : Ev d 88 12 [l0, l1, l2, l3, l4, l5, l6, l7, l8, l9] [.ref s0] σ Q = Ev d 88 13 [l0, l1, l2, l3, l4, l5, l6, l7, l8, l9] [.int 0, .ref s0] σ Q := ev_A1 d88_12 rfl
theorem d88_13 : decode (ab_C 88) 13 = .ok (.lconst 1, 1) := by decide +kernel
theorem e88_13 {d : Nat} {l0 l1 l2 l3 l4 l5 l6 l7 l8 l9 : Option Value} {s0 : Int32} {s1 : Nat} {σ : ab_St} {Q : Option Value → ab_St → Prop} : Ev d 88 13 [l0, l1, l2, l3, l4, l5, l6, l7, l8, l9] [.int s0, .ref s1] σ Q = Ev d 88 14 [l0, l1, l2, l3, l4, l5, l6, l7, l8, l9] [.long 1, .int s0, .ref s1] σ Q := ev_A1 d88_13 rfl
theorem d88_14 : decode (ab_C 88) 14 = .ok (.lastore, 1) := by decide +kernel
theorem e88_14 {d : Nat} {l0 l1 l2 l3 l4 l5 l6 l7 l8 l9 : Option Value} {s0 : Int64} {s1 : Int32} {s2 : Nat} {σ : ab_St} {Q : Option Value → ab_St → Prop} : Ev d 88 14 [l0, l1, l2, l3, l4, l5, l6, l7, l8, l9] [.long s0, .int s1, .ref s2] σ Q = ((ab_k s2 = 103 ∧ ab_in s1 (ab_n s2)) ∧ Ev d 88 15 [l0, l1, l2, l3, l4, l5, l6, l7, l8, l9] [] (ab_wL σ s2 (vp_updL (σ.2 s2) s1.toNatClampNeg s0)) Q) := ev_Hc (c := ab_k s2 = 103 ∧ ab_in s1 (ab_n s2)) d88_14 rfl rfl rfl rfl rfl rfl rfl rfl
theorem d88_15 : decode (ab_C 88) 15 = .ok (.iconst 0, 1) := by decide +kernel
theorem e88_15 {d : Nat} {l0 l1 l2 l3 l4 l5 l6 l7 l8 l9 : Option Value} {σ : ab_St} {Q : Option Value → ab_St → Prop} : Ev d 88 15 [l0, l1, l2, l3, l4, l5, l6, l7, l8, l9] [] σ Q = Ev d 88 16 [l0, l1, l2, l3, l4, l5, l6, l7, l8, l9] [.int 0] σ Q := ev_A1 d88_15 rfl
theorem d88_16 : decode (ab_C 88) 16 = .ok (.istore 5, 2) := by decide +kernel
theorem e88_16 {d : Nat} {l0 l1 l2 l3 l4 l5 l6 l7 l8 l9 : Option Value} {s0 : Int32} {σ : ab_St} {Q : Option Value → ab_St → Prop} : Ev d 88 16 [l0, l1, l2, l3, l4, l5, l6, l7, l8, l9] [.int s0] σ Q = Ev d 88 18 [l0, l1, l2, l3, l4, some (.int s0), l6, l7, l8, l9] [] σ Q := ev_S d88_16 rfl rfl rfl rfl
theorem d88_18 : decode (ab_C 88) 18 = .ok (.iload 5, 2) := by decide +kernel
theorem e88_18 {d : Nat} {l0 l1 l2 l3 l4 l6 l7 l8 l9 : Option Value} {x : Int32} {σ : ab_St} {Q : Option Value → ab_St → Prop} : Ev d 88 18 [l0, l1, l2, l3, l4, some (.int x), l6, l7, l8, l9] [] σ Q = Ev d 88 20 [l0, l1, l2, l3, l4, some (.int x), l6, l7, l8, l9] [.int x] σ Q := ev_A1 d88_18 rfl
theorem d88_20 : decode (ab_C 88) 20 = .ok (.bipush 6, 2) := by decide +kernel
theorem e88_20 {d : Nat} {l0 l1 l2 l3 l4 l5 l6 l7 l8 l9 : Option Value} {s0 : Int32} {σ : ab_St} {Q : Option Value → ab_St → Prop} : Ev d 88 20 [l0, l1, l2, l3, l4, l5, l6, l7, l8, l9] [.int s0] σ Q = Ev d 88 22 [l0, l1, l2, l3, l4, l5, l6, l7, l8, l9] [.int 6, .int s0] σ Q := ev_A1 d88_20 rfl
theorem d88_22 : decode (ab_C 88) 22 = .ok (.if_icmp .ge 89, 3) := by decide +kernel
theorem e88_22 {d : Nat} {l0 l1 l2 l3 l4 l5 l6 l7 l8 l9 : Option Value} {s0 : Int32} {s1 : Int32} {σ : ab_St} {Q : Option Value → ab_St → Prop} : Ev d 88 22 [l0, l1, l2, l3, l4, l5, l6, l7, l8, l9] [.int s0, .int s1] σ Q = if s0 ≤ s1 then Ev d 88 111 [l0, l1, l2, l3, l4, l5, l6, l7, l8, l9] [] σ Q else Ev d 88 25 [l0, l1, l2, l3, l4, l5, l6, l7, l8, l9] [] σ Q := ev_B (c := s0 ≤ s1) d88_22 rfl rfl rfl rfl rfl
theorem d88_25 : decode (ab_C 88) 25 = .ok (.aload_n 1, 1) := by decide +kernel
theorem e88_25 {d : Nat} {l0 l2 l3 l4 l5 l6 l7 l8 l9 : Option Value} {x : Nat} {σ : ab_St} {Q : Option Value → ab_St → Prop} : Ev d 88 25 [l0, some (.ref x), l2, l3, l4, l5, l6, l7, l8, l9] [] σ Q = Ev d 88 26 [l0, some (.ref x), l2, l3, l4, l5, l6, l7, l8, l9] [.ref x] σ Q := ev_A1 d88_25 rfl
theorem d88_26 : decode (ab_C 88) 26 = .ok (.getfield 26, 3) := by decide +kernel
theorem e88_26 {d : Nat} {l0 l1 l2 l3 l4 l5 l6 l7 l8 l9 : Option Value} {s0 : Nat} {σ : ab_St} {Q : Option Value → ab_St → Prop} : Ev d 88 26 [l0, l1, l2, l3, l4, l5, l6, l7, l8, l9] [.ref s0] σ Q = (ab_k s0 = 4 ∧ Ev d 88 29 [l0, l1, l2, l3, l4, l5, l6, l7, l8, l9] [.int (σ.1 s0 1)] σ Q) := ev_Hc (c := ab_k s0 = 4) d88_26 rfl rfl rfl rfl rfl rfl rfl rfl
theorem d88_29 : decode (ab_C 88) 29 = .ok (.iload 5, 2) := by decide +kernel
theorem e88_29 {d : Nat} {l0 l1 l2 l3 l4 l6 l7 l8 l9 : Option Value} {x : Int32} {s0 : Int32} {σ : ab_St} {Q : Option Value → ab_St → Prop} : Ev d 88 29 [l0, l1, l2, l3, l4, some (.int x), l6, l7, l8, l9] [.int s0] σ Q = Ev d 88 31 [l0, l1, l2, l3, l4, some (.int x), l6, l7, l8, l9] [.int x, .int s0] σ Q := ev_A1 d88_29 rfl
theorem d88_31 : decode (ab_C 88) 31 = .ok (.invokestatic 48, 3) := by decide +kernel
theorem e88_31 {d : Nat} {l0 l1 l2 l3 l4 l5 l6 l7 l8 l9 : Option Value} {s0 : Int32} {s1 : Int32} {σ : ab_St} {Q : Option Value → ab_St → Prop} : Ev (d + 1) 88 31 [l0, l1, l2, l3, l4, l5, l6, l7, l8, l9] [.int s0, .int s1] σ Q = Ev d 32 0 [some (.int s1), some (.int s0)] [] σ (fun r σ2 => Ev (d + 1) 88 34 [l0, l1, l2, l3, l4, l5, l6, l7, l8, l9] (r.toList ++ []) σ2 Q) := ev_K0 (y := 32) (ls := [l0, l1, l2, l3, l4, l5, l6, l7, l8, l9]) (st := [.int s0, .int s1]) (as := [.int s1, .int s0]) (rest := []) d88_31 rfl rfl rfl rfl rfl rfl rfl rfl
theorem d88_34 : decode (ab_C 88) 34 = .ok (.ifCond .eq 71, 3) := by decide +kernel
theorem e88_34 {d : Nat} {l0 l1 l2 l3 l4 l5 l6 l7 l8 l9 : Option Value} {s0 : Int32} {σ : ab_St} {Q : Option Value → ab_St → Prop} : Ev d 88 34 [l0, l1, l2, l3, l4, l5, l6, l7, l8, l9] [.int s0] σ Q = if s0 = 0 then Ev d 88 105 [l0, l1, l2, l3, l4, l5, l6, l7, l8, l9] [] σ Q else Ev d 88 37 [l0, l1, l2, l3, l4, l5, l6, l7, l8, l9] [] σ Q := ev_B (c := s0 = 0) d88_34 rfl rfl rfl rfl rfl
theorem d88_37 : decode (ab_C 88) 37 = .ok (.iload 4, 2) := by decide +kernel
theorem e88_37 {d : Nat} {l0 l1 l2 l3 l5 l6 l7 l8 l9 : Option Value} {x : Int32} {σ : ab_St} {Q : Option Value → ab_St → Prop} : Ev d 88 37 [l0, l1, l2, l3, some (.int x), l5, l6, l7, l8, l9] [] σ Q = Ev d 88 39 [l0, l1, l2, l3, some (.int x), l5, l6, l7, l8, l9] [.int x] σ Q := ev_A1 d88_37 rfl
theorem d88_39 : decode (ab_C 88) 39 = .ok (.aload_n 1, 1) := by decide +kernel
theorem e88_39 {d : Nat} {l0 l2 l3 l4 l5 l6 l7 l8 l9 : Option Value} {x : Nat} {s0 : Int32} {σ : ab_St} {Q : Option Value → ab_St → Prop} : Ev d 88 39 [l0, some (.ref x), l2, l3, l4, l5, l6, l7, l8, l9] [.int s0] σ Q = Ev d 88 40 [l0, some (.ref x), l2, l3, l4, l5, l6, l7, l8, l9] [.ref x, .int s0] σ Q := ev_A1 d88_39 rfl
theorem d88_40 : decode (ab_C 88) 40 = .ok (.getfield 34, 3) := by decide +kernel
theorem e88_40 {d : Nat} {l0 l1 l2 l3 l4 l5 l6 l7 l8 l9 : Option Value} {s0 : Nat} {s1 : Int32} {σ : ab_St} {Q : Option Value → ab_St → Prop} : Ev d 88 40 [l0, l1, l2, l3, l4, l5, l6, l7, l8, l9] [.ref s0, .int s1] σ Q = (ab_k s0 = 4 ∧ Ev d 88 43 [l0, l1, l2, l3, l4, l5, l6, l7, l8, l9] [.ref (ab_r s0 0), .int s1] σ Q) := ev_Hc (c := ab_k s0 = 4) d88_40 rfl rfl rfl rfl rfl rfl rfl rfl
theorem d88_43 : decode (ab_C 88) 43 = .ok (.iload 5, 2) := by decide +kernel
theorem e88_43 {d : Nat} {l0 l1 l2 l3 l4 l6 l7 l8 l9 : Option Value} {x : Int32} {s0 : Nat} {s1 : Int32} {σ : ab_St} {Q : Option Value → ab_St → Prop} : Ev d 88 43 [l0, l1, l2, l3, l4, some (.int x), l6, l7, l8, l9] [.ref s0, .int s1] σ Q = Ev d 88 45 [l0, l1, l2, l3, l4, some (.int x), l6, l7, l8, l9] [.int x, .ref s0, .int s1] σ Q := ev_A1 d88_43 rfl
theorem d88_45 : decode (ab_C 88) 45 = .ok (.iaload, 1) := by decide +kernel
theorem e88_45 {d : Nat} {l0 l1 l2 l3 l4 l5 l6 l7 l8 l9 : Option Value} {s0 : Int32} {s1 : Nat} {s2 : Int32} {σ : ab_St} {Q : Option Value → ab_St → Prop} : Ev d 88 45 [l0, l1, l2, l3, l4, l5, l6, l7, l8, l9] [.int s0, .ref s1, .int s2] σ Q = ((ab_k s1 = 100 ∧ ab_in s0 (ab_n s1)) ∧ Ev d 88 46 [l0, l1, l2, l3, l4, l5, l6, l7, l8, l9] [.int (σ.1 s1 s0.toNatClampNeg), .int s2] σ Q) := ev_Hc (c := ab_k s1 = 100 ∧ ab_in s0 (ab_n s1)) d88_45 rfl rfl rfl rfl rfl rfl rfl rfl
theorem d88_46 : decode (ab_C 88) 46 = .ok (.isub, 1) := by decide +kernel
theorem e88_46 {d : Nat} {l0 l1 l2 l3 l4 l5 l6 l7 l8 l9 : Option Value} {s0 : Int32} {s1 : Int32} {σ : ab_St} {Q : Option Value → ab_St → Prop} : Ev d 88 46 [l0, l1, l2, l3, l4, l5, l6, l7, l8, l9] [.int s0, .int s1] σ Q = Ev d 88 47 [l0, l1, l2, l3, l4, l5, l6, l7, l8, l9] [.int (s1 - s0)] σ Q := ev_A2 d88_46 rfl rfl
theorem d88_47 : decode (ab_C 88) 47 = .ok (.istore 6, 2) := by decide +kernel
theorem e88_47 {d : Nat} {l0 l1 l2 l3 l4 l5 l6 l7 l8 l9 : Option Value} {s0 : Int32} {σ : ab_St} {Q : Option Value → ab_St → Prop} : Ev d 88 47 [l0, l1, l2, l3, l4, l5, l6, l7, l8, l9] [.int s0] σ Q = Ev d 88 49 [l0, l1, l2, l3, l4, l5, some (.int s0), l7, l8, l9] [] σ Q := ev_S d88_47 rfl rfl rfl rfl
theorem d88_49 : decode (ab_C 88) 49 = .ok (.iload_n 3, 1) := by decide +kernel
theorem e88_49 {d : Nat} {l0 l1 l2 l4 l5 l6 l7 l8 l9 : Option Value} {x : Int32} {σ : ab_St} {Q : Option Value → ab_St → Prop} : Ev d 88 49 [l0, l1, l2, some (.int x), l4, l5, l6, l7, l8, l9] [] σ Q = Ev d 88 50 [l0, l1, l2, some (.int x), l4, l5, l6, l7, l8, l9] [.int x] σ Q := ev_A1 d88_49 rfl
theorem d88_50 : decode (ab_C 88) 50 = .ok (.iload 5, 2) := by decide +kernel
theorem e88_50 {d : Nat} {l0 l1 l2 l3 l4 l6 l7 l8 l9 : Option Value} {x : Int32} {s0 : Int32} {σ : ab_St} {Q : Option Value → ab_St → Prop} : Ev d 88 50 [l0, l1, l2, l3, l4, some (.int x), l6, l7, l8, l9] [.int s0] σ Q = Ev d 88 52 [l0, l1, l2, l3, l4, some (.int x), l6, l7, l8, l9] [.int x, .int s0] σ Q := ev_A1 d88_50 rfl
theorem d88_52 : decode (ab_C 88) 52 = .ok (.invokestatic 48, 3) := by decide +kernel
theorem e88_52 {d : Nat} {l0 l1 l2 l3 l4 l5 l6 l7 l8 l9 : Option Value} {s0 : Int32} {s1 : Int32} {σ : ab_St} {Q : Option Value → ab_St → Prop} : Ev (d + 1) 88 52 [l0, l1, l2, l3, l4, l5, l6, l7, l8, l9] [.int s0, .int s1] σ Q = Ev d 32 0 [some (.int s1), some (.int s0)] [] σ (fun r σ2 => Ev (d + 1) 88 55 [l0, l1, l2, l3, l4, l5, l6, l7, l8, l9] (r.toList ++ []) σ2 Q) := ev_K0 (y := 32) (ls := [l0, l1, l2, l3, l4, l5, l6, l7, l8, l9]) (st := [.int s0, .int s1]) (as := [.int s1, .int s0]) (rest := []) d88_52 rfl rfl rfl rfl rfl rfl rfl rfl
theorem d88_55 : decode (ab_C 88) 55 = .ok (.istore 7, 2) := by decide +kernel
theorem e88_55 {d : Nat} {l0 l1 l2 l3 l4 l5 l6 l7 l8 l9 : Option Value} {s0 : Int32} {σ : ab_St} {Q : Option Value → ab_St → Prop} : Ev d 88 55 [l0, l1, l2, l3, l4, l5, l6, l7, l8, l9] [.int s0] σ Q = Ev d 88 57 [l0, l1, l2, l3, l4, l5, l6, some (.int s0), l8, l9] [] σ Q := ev_S d88_55 rfl rfl rfl rfl
theorem d88_57 : decode (ab_C 88) 57 = .ok (.iload 7, 2) := by decide +kernel
theorem e88_57 {d : Nat} {l0 l1 l2 l3 l4 l5 l6 l8 l9 : Option Value} {x : Int32} {σ : ab_St} {Q : Option Value → ab_St → Prop} : Ev d 88 57 [l0, l1, l2, l3, l4, l5, l6, some (.int x), l8, l9] [] σ Q = Ev d 88 59 [l0, l1, l2, l3, l4, l5, l6, some (.int x), l8, l9] [.int x] σ Q := ev_A1 d88_57 rfl
theorem d88_59 : decode (ab_C 88) 59 = .ok (.ifCond .eq 8, 3) := by decide +kernel
theorem e88_59 {d : Nat} {l0 l1 l2 l3 l4 l5 l6 l7 l8 l9 : Option Value} {s0 : Int32} {σ : ab_St} {Q : Option Value → ab_St → Prop} : Ev d 88 59 [l0, l1, l2, l3, l4, l5, l6, l7, l8, l9] [.int s0] σ Q = if s0 = 0 then Ev d 88 67 [l0, l1, l2, l3, l4, l5, l6, l7, l8, l9] [] σ Q else Ev d 88 62 [l0, l1, l2, l3, l4, l5, l6, l7, l8, l9] [] σ Q := ev_B (c := s0 = 0) d88_59 rfl rfl rfl rfl rfl
theorem d88_62 : decode (ab_C 88) 62 = .ok (.iload 6, 2) := by decide +kernel
theorem e88_62 {d : Nat} {l0 l1 l2 l3 l4 l5 l7 l8 l9 : Option Value} {x : Int32} {σ : ab_St} {Q : Option Value → ab_St → Prop} : Ev d 88 62 [l0, l1, l2, l3, l4, l5, some (.int x), l7, l8, l9] [] σ Q = Ev d 88 64 [l0, l1, l2, l3, l4, l5, some (.int x), l7, l8, l9] [.int x] σ Q := ev_A1 d88_62 rfl
theorem d88_64 : decode (ab_C 88) 64 = .ok (.goto 7, 3) := by decide +kernel
theorem e88_64 {d : Nat} {l0 l1 l2 l3 l4 l5 l6 l7 l8 l9 : Option Value} {s0 : Int32} {σ : ab_St} {Q : Option Value → ab_St → Prop} : Ev d 88 64 [l0, l1, l2, l3, l4, l5, l6, l7, l8, l9] [.int s0] σ Q = Ev d 88 71 [l0, l1, l2, l3, l4, l5, l6, l7, l8, l9] [.int s0] σ Q := ev_J d88_64 rfl rfl rfl rfl rfl
theorem d88_67 : decode (ab_C 88) 67 = .ok (.iload 6, 2) := by decide +kernel
theorem e88_67 {d : Nat} {l0 l1 l2 l3 l4 l5 l7 l8 l9 : Option Value} {x : Int32} {σ : ab_St} {Q : Option Value → ab_St → Prop} : Ev d 88 67 [l0, l1, l2, l3, l4, l5, some (.int x), l7, l8, l9] [] σ Q = Ev d 88 69 [l0, l1, l2, l3, l4, l5, some (.int x), l7, l8, l9] [.int x] σ Q := ev_A1 d88_67 rfl
theorem d88_69 : decode (ab_C 88) 69 = .ok (.iconst 1, 1) := by decide +kernel
theorem e88_69 {d : Nat} {l0 l1 l2 l3 l4 l5 l6 l7 l8 l9 : Option Value} {s0 : Int32} {σ : ab_St} {Q : Option Value → ab_St → Prop} : Ev d 88 69 [l0, l1, l2, l3, l4, l5, l6, l7, l8, l9] [.int s0] σ Q = Ev d 88 70 [l0, l1, l2, l3, l4, l5, l6, l7, l8, l9] [.int 1, .int s0] σ Q := ev_A1 d88_69 rfl
theorem d88_70 : decode (ab_C 88) 70 = .ok (.iadd, 1) := by decide +kernel
theorem e88_70 {d : Nat} {l0 l1 l2 l3 l4 l5 l6 l7 l8 l9 : Option Value} {s0 : Int32} {s1 : Int32} {σ : ab_St} {Q : Option Value → ab_St → Prop} : Ev d 88 70 [l0, l1, l2, l3, l4, l5, l6, l7, l8, l9] [.int s0, .int s1] σ Q = Ev d 88 71 [l0, l1, l2, l3, l4, l5, l6, l7, l8, l9] [.int (s1 + s0)] σ Q := ev_A2 d88_70 rfl rfl
theorem d88_71 : decode (ab_C 88) 71 = .ok (.istore 8, 2) := by decide +kernel
theorem e88_71 {d : Nat} {l0 l1 l2 l3 l4 l5 l6 l7 l8 l9 : Option Value} {s0 : Int32} {σ : ab_St} {Q : Option Value → ab_St → Prop} : Ev d 88 71 [l0, l1, l2, l3, l4, l5, l6, l7, l8, l9] [.int s0] σ Q = Ev d 88 73 [l0, l1, l2, l3, l4, l5, l6, l7, some (.int s0), l9] [] σ Q := ev_S d88_71 rfl rfl rfl rfl
theorem d88_73 : decode (ab_C 88) 73 = .ok (.iload 7, 2) := by decide +kernel
theorem e88_73 {d : Nat} {l0 l1 l2 l3 l4 l5 l6 l8 l9 : Option Value} {x : Int32} {σ : ab_St} {Q : Option Value → ab_St → Prop} : Ev d 88 73 [l0, l1, l2, l3, l4, l5, l6, some (.int x), l8, l9] [] σ Q = Ev d 88 75 [l0, l1, l2, l3, l4, l5, l6, some (.int x), l8, l9] [.int x] σ Q := ev_A1 d88_73 rfl
theorem d88_75 : decode (ab_C 88) 75 = .ok (.ifCond .eq 8, 3) := by decide +kernel
theorem e88_75 {d : Nat} {l0 l1 l2 l3 l4 l5 l6 l7 l8 l9 : Option Value} {s0 : Int32} {σ : ab_St} {Q : Option Value → ab_St → Prop} : Ev d 88 75 [l0, l1, l2, l3, l4, l5, l6, l7, l8, l9] [.int s0] σ Q = if s0 = 0 then Ev d 88 83 [l0, l1, l2, l3, l4, l5, l6, l7, l8, l9] [] σ Q else Ev d 88 78 [l0, l1, l2, l3, l4, l5, l6, l7, l8, l9] [] σ Q := ev_B (c := s0 = 0) d88_75 rfl rfl rfl rfl rfl
theorem d88_78 : decode (ab_C 88) 78 = .ok (.iload 6, 2) := by decide +kernel
theorem e88_78 {d : Nat} {l0 l1 l2 l3 l4 l5 l7 l8 l9 : Option Value} {x : Int32} {σ : ab_St} {Q : Option Value → ab_St → Prop} : Ev d 88 78 [l0, l1, l2, l3, l4, l5, some (.int x), l7, l8, l9] [] σ Q = Ev d 88 80 [l0, l1, l2, l3, l4, l5, some (.int x), l7, l8, l9] [.int x] σ Q := ev_A1 d88_78 rfl
theorem d88_80 : decode (ab_C 88) 80 = .ok (.goto 5, 3) := by decide +kernel
theorem e88_80 {d : Nat} {l0 l1 l2 l3 l4 l5 l6 l7 l8 l9 : Option Value} {s0 : Int32} {σ : ab_St} {Q : Option Value → ab_St → Prop} : Ev d 88 80 [l0, l1, l2, l3, l4, l5, l6, l7, l8, l9] [.int s0] σ Q = Ev d 88 85 [l0, l1, l2, l3, l4, l5, l6, l7, l8, l9] [.int s0] σ Q := ev_J d88_80 rfl rfl rfl rfl rfl
theorem d88_83 : decode (ab_C 88) 83 = .ok (.bipush 9, 2) := by decide +kernel
theorem e88_83 {d : Nat} {l0 l1 l2 l3 l4 l5 l6 l7 l8 l9 : Option Value} {σ : ab_St} {Q : Option Value → ab_St → Prop} : Ev d 88 83 [l0, l1, l2, l3, l4, l5, l6, l7, l8, l9] [] σ Q = Ev d 88 85 [l0, l1, l2, l3, l4, l5, l6, l7, l8, l9] [.int 9] σ Q := ev_A1 d88_83 rfl
theorem d88_85 : decode (ab_C 88) 85 = .ok (.istore 9, 2) := by decide +kernel
theorem e88_85 {d : Nat} {l0 l1 l2 l3 l4 l5 l6 l7 l8 l9 : Option Value} {s0 : Int32} {σ : ab_St} {Q : Option Value → ab_St → Prop} : Ev d 88 85 [l0, l1, l2, l3, l4, l5, l6, l7, l8, l9] [.int s0] σ Q = Ev d 88 87 [l0, l1, l2, l3, l4, l5, l6, l7, l8, some (.int s0)] [] σ Q := ev_S d88_85 rfl rfl rfl rfl
theorem d88_87 : decode (ab_C 88) 87 = .ok (.aload_n 0, 1) := by decide +kernel
theorem e88_87 {d : Nat} {l1 l2 l3 l4 l5 l6 l7 l8 l9 : Option Value} {x : Nat} {σ : ab_St} {Q : Option Value → ab_St → Prop} : Ev d 88 87 [some (.ref x), l1, l2, l3, l4, l5, l6, l7, l8, l9] [] σ Q = Ev d 88 88 [some (.ref x), l1, l2, l3, l4, l5, l6, l7, l8, l9] [.ref x] σ Q := ev_A1 d88_87 rfl
theorem d88_88 : decode (ab_C 88) 88 = .ok (.iload_n 2, 1) := by decide +kernel
theorem e88_88 {d : Nat} {l0 l1 l3 l4 l5 l6 l7 l8 l9 : Option Value} {x : Int32} {s0 : Nat} {σ : ab_St} {Q : Option Value → ab_St → Prop} : Ev d 88 88 [l0, l1, some (.int x), l3, l4, l5, l6, l7, l8, l9] [.ref s0] σ Q = Ev d 88 89 [l0, l1, some (.int x), l3, l4, l5, l6, l7, l8, l9] [.int x, .ref s0] σ Q := ev_A1 d88_88 rfl
theorem d88_89 : decode (ab_C 88) 89 = .ok (.iconst 0, 1) := by decide +kernel
theorem e88_89 {d : Nat} {l0 l1 l2 l3 l4 l5 l6 l7 l8 l9 : Option Value} {s0 : Int32} {s1 : Nat} {σ : ab_St} {Q : Option Value → ab_St → Prop} : Ev d 88 89 [l0, l1, l2, l3, l4, l5, l6, l7, l8, l9] [.int s0, .ref s1] σ Q = Ev d 88 90 [l0, l1, l2, l3, l4, l5, l6, l7, l8, l9] [.int 0, .int s0, .ref s1] σ Q := ev_A1 d88_89 rfl
theorem d88_90 : decode (ab_C 88) 90 = .ok (.iload 8, 2) := by decide +kernel
theorem e88_90 {d : Nat} {l0 l1 l2 l3 l4 l5 l6 l7 l9 : Option Value} {x : Int32} {s0 : Int32} {s1 : Int32} {s2 : Nat} {σ : ab_St} {Q : Option Value → ab_St → Prop} : Ev d 88 90 [l0, l1, l2, l3, l4, l5, l6, l7, some (.int x), l9] [.int s0, .int s1, .ref s2] σ Q = Ev d 88 92 [l0, l1, l2, l3, l4, l5, l6, l7, some (.int x), l9] [.int x, .int s0, .int s1, .ref s2] σ Q := ev_A1 d88_90 rfl
theorem d88_92 : decode (ab_C 88) 92 = .ok (.invokestatic 52, 3) := by decide +kernel
theorem e88_92 {d : Nat} {l0 l1 l2 l3 l4 l5 l6 l7 l8 l9 : Option Value} {s0 : Int32} {s1 : Int32} {s2 : Int32} {s3 : Nat} {σ : ab_St} {Q : Option Value → ab_St → Prop} : Ev (d + 1) 88 92 [l0, l1, l2, l3, l4, l5, l6, l7, l8, l9] [.int s0, .int s1, .int s2, .ref s3] σ Q = Ev (d + 1) 88 95 [l0, l1, l2, l3, l4, l5, l6, l7, l8, l9] [.int (if s1 < s0 then s0 else s1), .int s2, .ref s3] σ Q := ev_X d88_92 rfl rfl (ab_X_ok (k := 0) (st := [.int s2, .ref s3]) rfl (Nat.le_of_ble_eq_true rfl))
theorem d88_95 : decode (ab_C 88) 95 = .ok (.bipush 9, 2) := by decide +kernel
theorem e88_95 {d : Nat} {l0 l1 l2 l3 l4 l5 l6 l7 l8 l9 : Option Value} {s0 : Int32} {s1 : Int32} {s2 : Nat} {σ : ab_St} {Q : Option Value → ab_St → Prop} : Ev d 88 95 [l0, l1, l2, l3, l4, l5, l6, l7, l8, l9] [.int s0, .int s1, .ref s2] σ Q = Ev d 88 97 [l0, l1, l2, l3, l4, l5, l6, l7, l8, l9] [.int 9, .int s0, .int s1, .ref s2] σ Q := ev_A1 d88_95 rfl
theorem d88_97 : decode (ab_C 88) 97 = .ok (.iload 9, 2) := by decide +kernel
theorem e88_97 {d : Nat} {l0 l1 l2 l3 l4 l5 l6 l7 l8 : Option Value} {x : Int32} {s0 : Int32} {s1 : Int32} {s2 : Int32} {s3 : Nat} {σ : ab_St} {Q : Option Value → ab_St → Prop} : Ev d 88 97 [l0, l1, l2, l3, l4, l5, l6, l7, l8, some (.int x)] [.int s0, .int s1, .int s2, .ref s3] σ Q = Ev d 88 99 [l0, l1, l2, l3, l4, l5, l6, l7, l8, some (.int x)] [.int x, .int s0, .int s1, .int s2, .ref s3] σ Q := ev_A1 d88_97 rfl
theorem d88_99 : decode (ab_C 88) 99 = .ok (.invokestatic 58, 3) := by decide +kernel
theorem e88_99 {d : Nat} {l0 l1 l2 l3 l4 l5 l6 l7 l8 l9 : Option Value} {s0 : Int32} {s1 : Int32} {s2 : Int32} {s3 : Int32} {s4 : Nat} {σ : ab_St} {Q : Option Value → ab_St → Prop} : Ev (d + 1) 88 99 [l0, l1, l2, l3, l4, l5, l6, l7, l8, l9] [.int s0, .int s1, .int s2, .int s3, .ref s4] σ Q = Ev (d + 1) 88 102 [l0, l1, l2, l3, l4, l5, l6, l7, l8, l9] [.int (if s0 < s1 then s0 else s1), .int s2, .int s3, .ref s4] σ Q := ev_X d88_99 rfl rfl (ab_X_ok (k := 1) (st := [.int s2, .int s3, .ref s4]) rfl (Nat.le_of_ble_eq_true rfl))
theorem d88_102 : decode (ab_C 88) 102 = .ok (.invokevirtual 61, 3) := by decide +kernel
theorem e88_102 {d : Nat} {l0 l1 l2 l3 l4 l5 l6 l7 l8 l9 : Option Value} {s0 : Int32} {s1 : Int32} {s2 : Int32} {s3 : Nat} {σ : ab_St} {Q : Option Value → ab_St → Prop} : Ev (d + 1) 88 102 [l0, l1, l2, l3, l4, l5, l6, l7, l8, l9] [.int s0, .int s1, .int s2, .ref s3] σ Q = (ab_k s3 = 9 ∧ Ev d 91 0 [some (.ref s3), some (.int s2), some (.int s1), some (.int s0), none, none, none, none] [] σ (fun r σ2 => Ev (d + 1) 88 105 [l0, l1, l2, l3, l4, l5, l6, l7, l8, l9] (r.toList ++ []) σ2 Q)) := ev_KV (b := s3) (ls := [l0, l1, l2, l3, l4, l5, l6, l7, l8, l9]) (st := [.int s0, .int s1, .int s2, .ref s3]) (as := [.int s2, .int s1, .int s0]) (rest := []) d88_102 rfl rfl rfl (Nat.le_of_ble_eq_true rfl) (Nat.le_of_ble_eq_true rfl) (Nat.le_of_ble_eq_true rfl) rfl rfl rfl rfl rfl rfl rfl
theorem d88_105 : decode (ab_C 88) 105 = .ok (.iinc 5 1, 3) := by decide +kernel
theorem e88_105 {d : Nat} {l0 l1 l2 l3 l4 l6 l7 l8 l9 : Option Value} {x : Int32} {σ : ab_St} {Q : Option Value → ab_St → Prop} : Ev d 88 105 [l0, l1, l2, l3, l4, some (.int x), l6, l7, l8, l9] [] σ Q = Ev d 88 108 [l0, l1, l2, l3, l4, some (.int (x + 1)), l6, l7, l8, l9] [] σ Q := ev_S d88_105 rfl rfl rfl rfl
theorem d88_108 : decode (ab_C 88) 108 = .ok (.goto (-90), 3) := by decide +kernel
theorem e88_108 {d : Nat} {l0 l1 l2 l3 l4 l5 l6 l7 l8 l9 : Option Value} {σ : ab_St} {Q : Option Value → ab_St → Prop} : Ev d 88 108 [l0, l1, l2, l3, l4, l5, l6, l7, l8, l9] [] σ Q = Ev d 88 18 [l0, l1, l2, l3, l4, l5, l6, l7, l8, l9] [] σ Q := ev_J d88_108 rfl rfl rfl rfl rfl
theorem d88_111 : decode (ab_C 88) 111 = .ok (.aload_n 0, 1) := by decide +kernel
theorem e88_111 {d : Nat} {l1 l2 l3 l4 l5 l6 l7 l8 l9 : Option Value} {x : Nat} {σ : ab_St} {Q : Option Value → ab_St → Prop} : Ev d 88 111 [some (.ref x), l1, l2, l3, l4, l5, l6, l7, l8, l9] [] σ Q = Ev d 88 112 [some (.ref x), l1, l2, l3, l4, l5, l6, l7, l8, l9] [.ref x] σ Q := ev_A1 d88_111 rfl
theorem d88_112 : decode (ab_C 88) 112 = .ok (.getfield 9, 3) := by decide +kernel
theorem e88_112 {d : Nat} {l0 l1 l2 l3 l4 l5 l6 l7 l8 l9 : Option Value} {s0 : Nat} {σ : ab_St} {Q : Option Value → ab_St → Prop} : Ev d 88 112 [l0, l1, l2, l3, l4, l5, l6, l7, l8, l9] [.ref s0] σ Q = (ab_k s0 = 9 ∧ Ev d 88 115 [l0, l1, l2, l3, l4, l5, l6, l7, l8, l9] [.ref (ab_r s0 0)] σ Q) := ev_Hc (c := ab_k s0 = 9) d88_112 rfl rfl rfl rfl rfl rfl rfl rfl
theorem d88_115 : decode (ab_C 88) 115 = .ok (.iload_n 2, 1) := by decide +kernel
theorem e88_115 {d : Nat} {l0 l1 l3 l4 l5 l6 l7 l8 l9 : Option Value} {x : Int32} {s0 : Nat} {σ : ab_St} {Q : Option Value → ab_St → Prop} : Ev d 88 115 [l0, l1, some (.int x), l3, l4, l5, l6, l7, l8, l9] [.ref s0] σ Q = Ev d 88 116 [l0, l1, some (.int x), l3, l4, l5, l6, l7, l8, l9] [.int x, .ref s0] σ Q := ev_A1 d88_115 rfl
theorem d88_116 : decode (ab_C 88) 116 = .ok (.laload, 1) := by decide +kernel
theorem e88_116 {d : Nat} {l0 l1 l2 l3 l4 l5 l6 l7 l8 l9 : Option Value} {s0 : Int32} {s1 : Nat} {σ : ab_St} {Q : Option Value → ab_St → Prop} : Ev d 88 116 [l0, l1, l2, l3, l4, l5, l6, l7, l8, l9] [.int s0, .ref s1] σ Q = ((ab_k s1 = 103 ∧ ab_in s0 (ab_n s1)) ∧ Ev d 88 117 [l0, l1, l2, l3, l4, l5, l6, l7, l8, l9] [.long (σ.2 s1 s0.toNatClampNeg)] σ Q) := ev_Hc (c := ab_k s1 = 103 ∧ ab_in s0 (ab_n s1)) d88_116 rfl rfl rfl rfl rfl rfl rfl rfl
theorem d88_117 : decode (ab_C 88) 117 = .ok (.lreturn, 1) := by decide +kernel
theorem e88_117 {d : Nat} {l0 l1 l2 l3 l4 l5 l6 l7 l8 l9 : Option Value} {s0 : Int64} {σ : ab_St} {Q : Option Value → ab_St → Prop} : Ev d 88 117 [l0, l1, l2, l3, l4, l5, l6, l7, l8, l9] [.long s0] σ Q = Q (some (.long s0)) σ := ev_E d88_117 rfl rfl rfl rfl rfl rfl rfl
/-! java/util/Arrays.fill([JJ)V -/
theorem d89_0 : decode (ab_C 89) 0 = .ok (.iconst 0, 1) := by decide +kernel
theorem e89_0 {d : Nat} {l0 l1 l2 l3 l4 : Option Value} {σ : ab_St} {Q : Option Value → ab_St → Prop} : Ev d 89 0 [l0, l1, l2, l3, l4] [] σ Q = Ev d 89 1 [l0, l1, l2, l3, l4] [.int 0] σ Q := ev_A1 d89_0 rfl
theorem d89_1 : decode (ab_C 89) 1 = .ok (.istore_n 3, 1) := by decide +kernel
theorem e89_1 {d : Nat} {l0 l1 l2 l3 l4 : Option Value} {s0 : Int32} {σ : ab_St} {Q : Option Value → ab_St → Prop} : Ev d 89 1 [l0, l1, l2, l3, l4] [.int s0] σ Q = Ev d 89 2 [l0, l1, l2, some (.int s0), l4] [] σ Q := ev_S d89_1 rfl rfl rfl rfl
theorem d89_2 : decode (ab_C 89) 2 = .ok (.aload_n 0, 1) := by decide +kernel
theorem e89_2 {d : Nat} {l1 l2 l3 l4 : Option Value} {x : Nat} {σ : ab_St} {Q : Option Value → ab_St → Prop} : Ev d 89 2 [some (.ref x), l1, l2, l3, l4] [] σ Q = Ev d 89 3 [some (.ref x), l1, l2, l3, l4] [.ref x] σ Q := ev_A1 d89_2 rfl
theorem d89_3 : decode (ab_C 89) 3 = .ok (.arraylength, 1) := by decide +kernel
theorem e89_3 {d : Nat} {l0 l1 l2 l3 l4 : Option Value} {s0 : Nat} {σ : ab_St} {Q : Option Value → ab_St → Prop} : Ev d 89 3 [l0, l1, l2, l3, l4] [.ref s0] σ Q = ((100 ≤ ab_k s0 ∧ ab_k s0 ≤ 103) ∧ Ev d 89 4 [l0, l1, l2, l3, l4] [.int (Int32.ofNat (ab_n s0))] σ Q) := ev_Hc (c := 100 ≤ ab_k s0 ∧ ab_k s0 ≤ 103) d89_3 rfl rfl rfl rfl rfl rfl rfl rfl
theorem d89_4 : decode (ab_C 89) 4 = .ok (.istore 4, 2) := by decide +kernel
theorem e89_4 {d : Nat} {l0 l1 l2 l3 l4 : Option Value} {s0 : Int32} {σ : ab_St} {Q : Option Value → ab_St → Prop} : Ev d 89 4 [l0, l1, l2, l3, l4] [.int s0] σ Q = Ev d 89 6 [l0, l1, l2, l3, some (.int s0)] [] σ Q := ev_S d89_4 rfl rfl rfl rfl
theorem d89_6 : decode (ab_C 89) 6 = .ok (.iload_n 3, 1) := by decide +kernel
theorem e89_6 {d : Nat} {l0 l1 l2 l4 : Option Value} {x : Int32} {σ : ab_St} {Q : Option Value → ab_St → Prop} : Ev d 89 6 [l0, l1, l2, some (.int x), l4] [] σ Q = Ev d 89 7 [l0, l1, l2, some (.int x), l4] [.int x] σ Q := ev_A1 d89_6 rfl
theorem d89_7 : decode (ab_C 89) 7 = .ok (.iload 4, 2) := by decide +kernel
theorem e89_7 {d : Nat} {l0 l1 l2 l3 : Option Value} {x : Int32} {s0 : Int32} {σ : ab_St} {Q : Option Value → ab_St → Prop} : Ev d 89 7 [l0, l1, l2, l3, some (.int x)] [.int s0] σ Q = Ev d 89 9 [l0, l1, l2, l3, some (.int x)] [.int x, .int s0] σ Q := ev_A1 d89_7 rfl
theorem d89_9 : decode (ab_C 89) 9 = .ok (.if_icmp .ge 13, 3) := by decide +kernel
theorem e89_9 {d : Nat} {l0 l1 l2 l3 l4 : Option Value} {s0 : Int32} {s1 : Int32} {σ : ab_St} {Q : Option Value → ab_St → Prop} : Ev d 89 9 [l0, l1, l2, l3, l4] [.int s0, .int s1] σ Q = if s0 ≤ s1 then Ev d 89 22 [l0, l1, l2, l3, l4] [] σ Q else Ev d 89 12 [l0, l1, l2, l3, l4] [] σ Q := ev_B (c := s0 ≤ s1) d89_9 rfl rfl rfl rfl rfl
theorem d89_12 : decode (ab_C 89) 12 = .ok (.aload_n 0, 1) := by decide +kernel
theorem e89_12 {d : Nat} {l1 l2 l3 l4 : Option Value} {x : Nat} {σ : ab_St} {Q : Option Value → ab_St → Prop} : Ev d 89 12 [some (.ref x), l1, l2, l3, l4] [] σ Q = Ev d 89 13 [some (.ref x), l1, l2, l3, l4] [.ref x] σ Q := ev_A1 d89_12 rfl
theorem d89_13 : decode (ab_C 89) 13 = .ok (.iload_n 3, 1) := by decide +kernel
theorem e89_13 {d : Nat} {l0 l1 l2 l4 : Option Value} {x : Int32} {s0 : Nat} {σ : ab_St} {Q : Option Value → ab_St → Prop} : Ev d 89 13 [l0, l1, l2, some (.int x), l4] [.ref s0] σ Q = Ev d 89 14 [l0, l1, l2, some (.int x), l4] [.int x, .ref s0] σ Q := ev_A1 d89_13 rfl
theorem d89_14 : decode (ab_C 89) 14 = .ok (.lload_n 1, 1) := by decide +kernel
theorem e89_14 {d : Nat} {l0 l3 l4 : Option Value} {x : Int64} {s0 : Int32} {s1 : Nat} {σ : ab_St} {Q : Option Value → ab_St → Prop} : Ev d 89 14 [l0, some (.long x), none, l3, l4] [.int s0, .ref s1] σ Q = Ev d 89 15 [l0, some (.long x), none, l3, l4] [.long x, .int s0, .ref s1] σ Q := ev_A1 d89_14 rfl
theorem d89_15 : decode (ab_C 89) 15 = .ok (.lastore, 1) := by decide +kernel
theorem e89_15 {d : Nat} {l0 l1 l2 l3 l4 : Option Value} {s0 : Int64} {s1 : Int32} {s2 : Nat} {σ : ab_St} {Q : Option Value → ab_St → Prop} : Ev d 89 15 [l0, l1, l2, l3, l4] [.long s0, .int s1, .ref s2] σ Q = ((ab_k s2 = 103 ∧ ab_in s1 (ab_n s2)) ∧ Ev d 89 16 [l0, l1, l2, l3, l4] [] (ab_wL σ s2 (vp_updL (σ.2 s2) s1.toNatClampNeg s0)) Q) := ev_Hc (c := ab_k s2 = 103 ∧ ab_in s1 (ab_n s2)) d89_15 rfl rfl rfl rfl rfl rfl rfl rfl
theorem d89_16 : decode (ab_C 89) 16 = .ok (.iinc 3 1, 3) := by decide +kernel
theorem e89_16 {d : Nat} {l0 l1 l2 l4 : Option Value} {x : Int32} {σ : ab_St} {Q : Option Value → ab_St → Prop} : Ev d 89 16 [l0, l1, l2, some (.int x), l4] [] σ Q = Ev d 89 19 [l0, l1, l2, some (.int (x + 1)), l4] [] σ Q := ev_S d89_16 rfl rfl rfl rfl
theorem d89_19 : decode (ab_C 89) 19 = .ok (.goto (-13), 3) := by decide +kernel
theorem e89_19 {d : Nat} {l0 l1 l2 l3 l4 : Option Value} {σ : ab_St} {Q : Option Value → ab_St → Prop} : Ev d 89 19 [l0, l1, l2, l3, l4] [] σ Q = Ev d 89 6 [l0, l1, l2, l3, l4] [] σ Q := ev_J d89_19 rfl rfl rfl rfl rfl
theorem d89_22 : decode (ab_C 89) 22 = .ok (.return_, 1) := by decide +kernel
theorem e89_22 {d : Nat} {l0 l1 l2 l3 l4 : Option Value} {σ : ab_St} {Q : Option Value → ab_St → Prop} : Ev d 89 22 [l0, l1, l2, l3, l4] [] σ Q = Q none σ := ev_E d89_22 rfl rfl rfl rfl rfl rfl rfl
/-! SaidLeast$Guesses.addWords(III)V -/
theorem d91_0 : decode (ab_C 91) 0 = .ok (.iload_n 1, 1) := by decide +kernel
theorem e91_0 {d : Nat} {l0 l2 l3 l4 l5 l6 l7 : Option Value} {x : Int32} {σ : ab_St} {Q : Option Value → ab_St → Prop} : Ev d 91 0 [l0, some (.int x), l2, l3, l4, l5, l6, l7] [] σ Q = Ev d 91 1 [l0, some (.int x), l2, l3, l4, l5, l6, l7] [.int x] σ Q := ev_A1 d91_0 rfl
theorem d91_1 : decode (ab_C 91) 1 = .ok (.istore 4, 2) := by decide +kernel
theorem e91_1 {d : Nat} {l0 l1 l2 l3 l4 l5 l6 l7 : Option Value} {s0 : Int32} {σ : ab_St} {Q : Option Value → ab_St → Prop} : Ev d 91 1 [l0, l1, l2, l3, l4, l5, l6, l7] [.int s0] σ Q = Ev d 91 3 [l0, l1, l2, l3, some (.int s0), l5, l6, l7] [] σ Q := ev_S d91_1 rfl rfl rfl rfl
theorem d91_3 : decode (ab_C 91) 3 = .ok (.iload 4, 2) := by decide +kernel
theorem e91_3 {d : Nat} {l0 l1 l2 l3 l5 l6 l7 : Option Value} {x : Int32} {σ : ab_St} {Q : Option Value → ab_St → Prop} : Ev d 91 3 [l0, l1, l2, l3, some (.int x), l5, l6, l7] [] σ Q = Ev d 91 5 [l0, l1, l2, l3, some (.int x), l5, l6, l7] [.int x] σ Q := ev_A1 d91_3 rfl
theorem d91_5 : decode (ab_C 91) 5 = .ok (.ifCond .lt 58, 3) := by decide +kernel
theorem e91_5 {d : Nat} {l0 l1 l2 l3 l4 l5 l6 l7 : Option Value} {s0 : Int32} {σ : ab_St} {Q : Option Value → ab_St → Prop} : Ev d 91 5 [l0, l1, l2, l3, l4, l5, l6, l7] [.int s0] σ Q = if s0 < 0 then Ev d 91 63 [l0, l1, l2, l3, l4, l5, l6, l7] [] σ Q else Ev d 91 8 [l0, l1, l2, l3, l4, l5, l6, l7] [] σ Q := ev_B (c := s0 < 0) d91_5 rfl rfl rfl rfl rfl
theorem d91_8 : decode (ab_C 91) 8 = .ok (.lconst 0, 1) := by decide +kernel
theorem e91_8 {d : Nat} {l0 l1 l2 l3 l4 l5 l6 l7 : Option Value} {σ : ab_St} {Q : Option Value → ab_St → Prop} : Ev d 91 8 [l0, l1, l2, l3, l4, l5, l6, l7] [] σ Q = Ev d 91 9 [l0, l1, l2, l3, l4, l5, l6, l7] [.long 0] σ Q := ev_A1 d91_8 rfl
theorem d91_9 : decode (ab_C 91) 9 = .ok (.lstore 5, 2) := by decide +kernel
theorem e91_9 {d : Nat} {l0 l1 l2 l3 l4 l5 l6 l7 : Option Value} {s0 : Int64} {σ : ab_St} {Q : Option Value → ab_St → Prop} : Ev d 91 9 [l0, l1, l2, l3, l4, l5, l6, l7] [.long s0] σ Q = Ev d 91 11 [l0, l1, l2, l3, l4, some (.long s0), none, l7] [] σ Q := ev_S d91_9 rfl rfl rfl rfl
theorem d91_11 : decode (ab_C 91) 11 = .ok (.iload_n 2, 1) := by decide +kernel
theorem e91_11 {d : Nat} {l0 l1 l3 l4 l5 l6 l7 : Option Value} {x : Int32} {σ : ab_St} {Q : Option Value → ab_St → Prop} : Ev d 91 11 [l0, l1, some (.int x), l3, l4, l5, l6, l7] [] σ Q = Ev d 91 12 [l0, l1, some (.int x), l3, l4, l5, l6, l7] [.int x] σ Q := ev_A1 d91_11 rfl
theorem d91_12 : decode (ab_C 91) 12 = .ok (.istore 7, 2) := by decide +kernel
theorem e91_12 {d : Nat} {l0 l1 l2 l3 l4 l5 l6 l7 : Option Value} {s0 : Int32} {σ : ab_St} {Q : Option Value → ab_St → Prop} : Ev d 91 12 [l0, l1, l2, l3, l4, l5, l6, l7] [.int s0] σ Q = Ev d 91 14 [l0, l1, l2, l3, l4, l5, l6, some (.int s0)] [] σ Q := ev_S d91_12 rfl rfl rfl rfl
theorem d91_14 : decode (ab_C 91) 14 = .ok (.iload 7, 2) := by decide +kernel
theorem e91_14 {d : Nat} {l0 l1 l2 l3 l4 l5 l6 : Option Value} {x : Int32} {σ : ab_St} {Q : Option Value → ab_St → Prop} : Ev d 91 14 [l0, l1, l2, l3, l4, l5, l6, some (.int x)] [] σ Q = Ev d 91 16 [l0, l1, l2, l3, l4, l5, l6, some (.int x)] [.int x] σ Q := ev_A1 d91_14 rfl
theorem d91_16 : decode (ab_C 91) 16 = .ok (.iload_n 3, 1) := by decide +kernel
theorem e91_16 {d : Nat} {l0 l1 l2 l4 l5 l6 l7 : Option Value} {x : Int32} {s0 : Int32} {σ : ab_St} {Q : Option Value → ab_St → Prop} : Ev d 91 16 [l0, l1, l2, some (.int x), l4, l5, l6, l7] [.int s0] σ Q = Ev d 91 17 [l0, l1, l2, some (.int x), l4, l5, l6, l7] [.int x, .int s0] σ Q := ev_A1 d91_16 rfl
theorem d91_17 : decode (ab_C 91) 17 = .ok (.if_icmp .gt 31, 3) := by decide +kernel
theorem e91_17 {d : Nat} {l0 l1 l2 l3 l4 l5 l6 l7 : Option Value} {s0 : Int32} {s1 : Int32} {σ : ab_St} {Q : Option Value → ab_St → Prop} : Ev d 91 17 [l0, l1, l2, l3, l4, l5, l6, l7] [.int s0, .int s1] σ Q = if s0 < s1 then Ev d 91 48 [l0, l1, l2, l3, l4, l5, l6, l7] [] σ Q else Ev d 91 20 [l0, l1, l2, l3, l4, l5, l6, l7] [] σ Q := ev_B (c := s0 < s1) d91_17 rfl rfl rfl rfl rfl
theorem d91_20 : decode (ab_C 91) 20 = .ok (.iload 7, 2) := by decide +kernel
theorem e91_20 {d : Nat} {l0 l1 l2 l3 l4 l5 l6 : Option Value} {x : Int32} {σ : ab_St} {Q : Option Value → ab_St → Prop} : Ev d 91 20 [l0, l1, l2, l3, l4, l5, l6, some (.int x)] [] σ Q = Ev d 91 22 [l0, l1, l2, l3, l4, l5, l6, some (.int x)] [.int x] σ Q := ev_A1 d91_20 rfl
theorem d91_22 : decode (ab_C 91) 22 = .ok (.iload 4, 2) := by decide +kernel
theorem e91_22 {d : Nat} {l0 l1 l2 l3 l5 l6 l7 : Option Value} {x : Int32} {s0 : Int32} {σ : ab_St} {Q : Option Value → ab_St → Prop} : Ev d 91 22 [l0, l1, l2, l3, some (.int x), l5, l6, l7] [.int s0] σ Q = Ev d 91 24 [l0, l1, l2, l3, some (.int x), l5, l6, l7] [.int x, .int s0] σ Q := ev_A1 d91_22 rfl
theorem d91_24 : decode (ab_C 91) 24 = .ok (.if_icmp .gt 24, 3) := by decide +kernel
theorem e91_24 {d : Nat} {l0 l1 l2 l3 l4 l5 l6 l7 : Option Value} {s0 : Int32} {s1 : Int32} {σ : ab_St} {Q : Option Value → ab_St → Prop} : Ev d 91 24 [l0, l1, l2, l3, l4, l5, l6, l7] [.int s0, .int s1] σ Q = if s0 < s1 then Ev d 91 48 [l0, l1, l2, l3, l4, l5, l6, l7] [] σ Q else Ev d 91 27 [l0, l1, l2, l3, l4, l5, l6, l7] [] σ Q := ev_B (c := s0 < s1) d91_24 rfl rfl rfl rfl rfl
theorem d91_27 : decode (ab_C 91) 27 = .ok (.lload 5, 2) := by decide +kernel
theorem e91_27 {d : Nat} {l0 l1 l2 l3 l4 l7 : Option Value} {x : Int64} {σ : ab_St} {Q : Option Value → ab_St → Prop} : Ev d 91 27 [l0, l1, l2, l3, l4, some (.long x), none, l7] [] σ Q = Ev d 91 29 [l0, l1, l2, l3, l4, some (.long x), none, l7] [.long x] σ Q := ev_A1 d91_27 rfl
theorem d91_29 : decode (ab_C 91) 29 = .ok (.aload_n 0, 1) := by decide +kernel
theorem e91_29 {d : Nat} {l1 l2 l3 l4 l5 l6 l7 : Option Value} {x : Nat} {s0 : Int64} {σ : ab_St} {Q : Option Value → ab_St → Prop} : Ev d 91 29 [some (.ref x), l1, l2, l3, l4, l5, l6, l7] [.long s0] σ Q = Ev d 91 30 [some (.ref x), l1, l2, l3, l4, l5, l6, l7] [.ref x, .long s0] σ Q := ev_A1 d91_29 rfl
theorem d91_30 : decode (ab_C 91) 30 = .ok (.getfield 9, 3) := by decide +kernel
theorem e91_30 {d : Nat} {l0 l1 l2 l3 l4 l5 l6 l7 : Option Value} {s0 : Nat} {s1 : Int64} {σ : ab_St} {Q : Option Value → ab_St → Prop} : Ev d 91 30 [l0, l1, l2, l3, l4, l5, l6, l7] [.ref s0, .long s1] σ Q = (ab_k s0 = 9 ∧ Ev d 91 33 [l0, l1, l2, l3, l4, l5, l6, l7] [.ref (ab_r s0 0), .long s1] σ Q) := ev_Hc (c := ab_k s0 = 9) d91_30 rfl rfl rfl rfl rfl rfl rfl rfl
theorem d91_33 : decode (ab_C 91) 33 = .ok (.iload 4, 2) := by decide +kernel
theorem e91_33 {d : Nat} {l0 l1 l2 l3 l5 l6 l7 : Option Value} {x : Int32} {s0 : Nat} {s1 : Int64} {σ : ab_St} {Q : Option Value → ab_St → Prop} : Ev d 91 33 [l0, l1, l2, l3, some (.int x), l5, l6, l7] [.ref s0, .long s1] σ Q = Ev d 91 35 [l0, l1, l2, l3, some (.int x), l5, l6, l7] [.int x, .ref s0, .long s1] σ Q := ev_A1 d91_33 rfl
theorem d91_35 : decode (ab_C 91) 35 = .ok (.iload 7, 2) := by decide +kernel
theorem e91_35 {d : Nat} {l0 l1 l2 l3 l4 l5 l6 : Option Value} {x : Int32} {s0 : Int32} {s1 : Nat} {s2 : Int64} {σ : ab_St} {Q : Option Value → ab_St → Prop} : Ev d 91 35 [l0, l1, l2, l3, l4, l5, l6, some (.int x)] [.int s0, .ref s1, .long s2] σ Q = Ev d 91 37 [l0, l1, l2, l3, l4, l5, l6, some (.int x)] [.int x, .int s0, .ref s1, .long s2] σ Q := ev_A1 d91_35 rfl
theorem d91_37 : decode (ab_C 91) 37 = .ok (.isub, 1) := by decide +kernel
theorem e91_37 {d : Nat} {l0 l1 l2 l3 l4 l5 l6 l7 : Option Value} {s0 : Int32} {s1 : Int32} {s2 : Nat} {s3 : Int64} {σ : ab_St} {Q : Option Value → ab_St → Prop} : Ev d 91 37 [l0, l1, l2, l3, l4, l5, l6, l7] [.int s0, .int s1, .ref s2, .long s3] σ Q = Ev d 91 38 [l0, l1, l2, l3, l4, l5, l6, l7] [.int (s1 - s0), .ref s2, .long s3] σ Q := ev_A2 d91_37 rfl rfl
theorem d91_38 : decode (ab_C 91) 38 = .ok (.laload, 1) := by decide +kernel
theorem e91_38 {d : Nat} {l0 l1 l2 l3 l4 l5 l6 l7 : Option Value} {s0 : Int32} {s1 : Nat} {s2 : Int64} {σ : ab_St} {Q : Option Value → ab_St → Prop} : Ev d 91 38 [l0, l1, l2, l3, l4, l5, l6, l7] [.int s0, .ref s1, .long s2] σ Q = ((ab_k s1 = 103 ∧ ab_in s0 (ab_n s1)) ∧ Ev d 91 39 [l0, l1, l2, l3, l4, l5, l6, l7] [.long (σ.2 s1 s0.toNatClampNeg), .long s2] σ Q) := ev_Hc (c := ab_k s1 = 103 ∧ ab_in s0 (ab_n s1)) d91_38 rfl rfl rfl rfl rfl rfl rfl rfl
theorem d91_39 : decode (ab_C 91) 39 = .ok (.ladd, 1) := by decide +kernel
theorem e91_39 {d : Nat} {l0 l1 l2 l3 l4 l5 l6 l7 : Option Value} {s0 : Int64} {s1 : Int64} {σ : ab_St} {Q : Option Value → ab_St → Prop} : Ev d 91 39 [l0, l1, l2, l3, l4, l5, l6, l7] [.long s0, .long s1] σ Q = Ev d 91 40 [l0, l1, l2, l3, l4, l5, l6, l7] [.long (s1 + s0)] σ Q := ev_A2 d91_39 rfl rfl
theorem d91_40 : decode (ab_C 91) 40 = .ok (.lstore 5, 2) := by decide +kernel
theorem e91_40 {d : Nat} {l0 l1 l2 l3 l4 l5 l6 l7 : Option Value} {s0 : Int64} {σ : ab_St} {Q : Option Value → ab_St → Prop} : Ev d 91 40 [l0, l1, l2, l3, l4, l5, l6, l7] [.long s0] σ Q = Ev d 91 42 [l0, l1, l2, l3, l4, some (.long s0), none, l7] [] σ Q := ev_S d91_40 rfl rfl rfl rfl
theorem d91_42 : decode (ab_C 91) 42 = .ok (.iinc 7 1, 3) := by decide +kernel
theorem e91_42 {d : Nat} {l0 l1 l2 l3 l4 l5 l6 : Option Value} {x : Int32} {σ : ab_St} {Q : Option Value → ab_St → Prop} : Ev d 91 42 [l0, l1, l2, l3, l4, l5, l6, some (.int x)] [] σ Q = Ev d 91 45 [l0, l1, l2, l3, l4, l5, l6, some (.int (x + 1))] [] σ Q := ev_S d91_42 rfl rfl rfl rfl
theorem d91_45 : decode (ab_C 91) 45 = .ok (.goto (-31), 3) := by decide +kernel
theorem e91_45 {d : Nat} {l0 l1 l2 l3 l4 l5 l6 l7 : Option Value} {σ : ab_St} {Q : Option Value → ab_St → Prop} : Ev d 91 45 [l0, l1, l2, l3, l4, l5, l6, l7] [] σ Q = Ev d 91 14 [l0, l1, l2, l3, l4, l5, l6, l7] [] σ Q := ev_J d91_45 rfl rfl rfl rfl rfl
theorem d91_48 : decode (ab_C 91) 48 = .ok (.aload_n 0, 1) := by decide +kernel
theorem e91_48 {d : Nat} {l1 l2 l3 l4 l5 l6 l7 : Option Value} {x : Nat} {σ : ab_St} {Q : Option Value → ab_St → Prop} : Ev d 91 48 [some (.ref x), l1, l2, l3, l4, l5, l6, l7] [] σ Q = Ev d 91 49 [some (.ref x), l1, l2, l3, l4, l5, l6, l7] [.ref x] σ Q := ev_A1 d91_48 rfl
theorem d91_49 : decode (ab_C 91) 49 = .ok (.getfield 9, 3) := by decide +kernel
theorem e91_49 {d : Nat} {l0 l1 l2 l3 l4 l5 l6 l7 : Option Value} {s0 : Nat} {σ : ab_St} {Q : Option Value → ab_St → Prop} : Ev d 91 49 [l0, l1, l2, l3, l4, l5, l6, l7] [.ref s0] σ Q = (ab_k s0 = 9 ∧ Ev d 91 52 [l0, l1, l2, l3, l4, l5, l6, l7] [.ref (ab_r s0 0)] σ Q) := ev_Hc (c := ab_k s0 = 9) d91_49 rfl rfl rfl rfl rfl rfl rfl rfl
theorem d91_52 : decode (ab_C 91) 52 = .ok (.iload 4, 2) := by decide +kernel
theorem e91_52 {d : Nat} {l0 l1 l2 l3 l5 l6 l7 : Option Value} {x : Int32} {s0 : Nat} {σ : ab_St} {Q : Option Value → ab_St → Prop} : Ev d 91 52 [l0, l1, l2, l3, some (.int x), l5, l6, l7] [.ref s0] σ Q = Ev d 91 54 [l0, l1, l2, l3, some (.int x), l5, l6, l7] [.int x, .ref s0] σ Q := ev_A1 d91_52 rfl
theorem d91_54 : decode (ab_C 91) 54 = .ok (.lload 5, 2) := by decide +kernel
theorem e91_54 {d : Nat} {l0 l1 l2 l3 l4 l7 : Option Value} {x : Int64} {s0 : Int32} {s1 : Nat} {σ : ab_St} {Q : Option Value → ab_St → Prop} : Ev d 91 54 [l0, l1, l2, l3, l4, some (.long x), none, l7] [.int s0, .ref s1] σ Q = Ev d 91 56 [l0, l1, l2, l3, l4, some (.long x), none, l7] [.long x, .int s0, .ref s1] σ Q := ev_A1 d91_54 rfl
theorem d91_56 : decode (ab_C 91) 56 = .ok (.lastore, 1) := by decide +kernel
theorem e91_56 {d : Nat} {l0 l1 l2 l3 l4 l5 l6 l7 : Option Value} {s0 : Int64} {s1 : Int32} {s2 : Nat} {σ : ab_St} {Q : Option Value → ab_St → Prop} : Ev d 91 56 [l0, l1, l2, l3, l4, l5, l6, l7] [.long s0, .int s1, .ref s2] σ Q = ((ab_k s2 = 103 ∧ ab_in s1 (ab_n s2)) ∧ Ev d 91 57 [l0, l1, l2, l3, l4, l5, l6, l7] [] (ab_wL σ s2 (vp_updL (σ.2 s2) s1.toNatClampNeg s0)) Q) := ev_Hc (c := ab_k s2 = 103 ∧ ab_in s1 (ab_n s2)) d91_56 rfl rfl rfl rfl rfl rfl rfl rfl
theorem d91_57 : decode (ab_C 91) 57 = .ok (.iinc 4 (-1), 3) := by decide +kernel
theorem e91_57 {d : Nat} {l0 l1 l2 l3 l5 l6 l7 : Option Value} {x : Int32} {σ : ab_St} {Q : Option Value → ab_St → Prop} : Ev d 91 57 [l0, l1, l2, l3, some (.int x), l5, l6, l7] [] σ Q = Ev d 91 60 [l0, l1, l2, l3, some (.int (x + (-1))), l5, l6, l7] [] σ Q := ev_S d91_57 rfl rfl rfl rfl
theorem d91_60 : decode (ab_C 91) 60 = .ok (.goto (-57), 3) := by decide +kernel
theorem e91_60 {d : Nat} {l0 l1 l2 l3 l4 l5 l6 l7 : Option Value} {σ : ab_St} {Q : Option Value → ab_St → Prop} : Ev d 91 60 [l0, l1, l2, l3, l4, l5, l6, l7] [] σ Q = Ev d 91 3 [l0, l1, l2, l3, l4, l5, l6, l7] [] σ Q := ev_J d91_60 rfl rfl rfl rfl rfl
theorem d91_63 : decode (ab_C 91) 63 = .ok (.return_, 1) := by decide +kernel
theorem e91_63 {d : Nat} {l0 l1 l2 l3 l4 l5 l6 l7 : Option Value} {σ : ab_St} {Q : Option Value → ab_St → Prop} : Ev d 91 63 [l0, l1, l2, l3, l4, l5, l6, l7] [] σ Q = Q none σ := ev_E d91_63 rfl rfl rfl rfl rfl rfl rfl
/-! SaidLeast.chance(IIIZ)J -/
theorem d92_0 : decode (ab_C 92) 0 = .ok (.aload_n 0, 1) := by decide +kernel
theorem e92_0 {d : Nat} {l1 l2 l3 l4 : Option Value} {x : Nat} {σ : ab_St} {Q : Option Value → ab_St → Prop} : Ev d 92 0 [some (.ref x), l1, l2, l3, l4] [] σ Q = Ev d 92 1 [some (.ref x), l1, l2, l3, l4] [.ref x] σ Q := ev_A1 d92_0 rfl
theorem d92_1 : decode (ab_C 92) 1 = .ok (.getfield 26, 3) := by decide +kernel
theorem e92_1 {d : Nat} {l0 l1 l2 l3 l4 : Option Value} {s0 : Nat} {σ : ab_St} {Q : Option Value → ab_St → Prop} : Ev d 92 1 [l0, l1, l2, l3, l4] [.ref s0] σ Q = (ab_k s0 = 0 ∧ Ev d 92 4 [l0, l1, l2, l3, l4] [.ref (ab_r s0 2)] σ Q) := ev_Hc (c := ab_k s0 = 0) d92_1 rfl rfl rfl rfl rfl rfl rfl rfl
theorem d92_4 : decode (ab_C 92) 4 = .ok (.iload_n 1, 1) := by decide +kernel
theorem e92_4 {d : Nat} {l0 l2 l3 l4 : Option Value} {x : Int32} {s0 : Nat} {σ : ab_St} {Q : Option Value → ab_St → Prop} : Ev d 92 4 [l0, some (.int x), l2, l3, l4] [.ref s0] σ Q = Ev d 92 5 [l0, some (.int x), l2, l3, l4] [.int x, .ref s0] σ Q := ev_A1 d92_4 rfl
theorem d92_5 : decode (ab_C 92) 5 = .ok (.invokevirtual 133, 3) := by decide +kernel
theorem e92_5 {d : Nat} {l0 l1 l2 l3 l4 : Option Value} {s0 : Int32} {s1 : Nat} {σ : ab_St} {Q : Option Value → ab_St → Prop} : Ev (d + 1) 92 5 [l0, l1, l2, l3, l4] [.int s0, .ref s1] σ Q = (ab_k s1 = 3 ∧ Ev d 26 0 [some (.ref s1), some (.int s0)] [] σ (fun r σ2 => Ev (d + 1) 92 8 [l0, l1, l2, l3, l4] (r.toList ++ []) σ2 Q)) := ev_KV (b := s1) (ls := [l0, l1, l2, l3, l4]) (st := [.int s0, .ref s1]) (as := [.int s0]) (rest := []) d92_5 rfl rfl rfl (Nat.le_of_ble_eq_true rfl) (Nat.le_of_ble_eq_true rfl) (Nat.le_of_ble_eq_true rfl) rfl rfl rfl rfl rfl rfl rfl
theorem d92_8 : decode (ab_C 92) 8 = .ok (.ifCond .ne 7, 3) := by decide +kernel
theorem e92_8 {d : Nat} {l0 l1 l2 l3 l4 : Option Value} {s0 : Int32} {σ : ab_St} {Q : Option Value → ab_St → Prop} : Ev d 92 8 [l0, l1, l2, l3, l4] [.int s0] σ Q = if s0 = 0 then Ev d 92 11 [l0, l1, l2, l3, l4] [] σ Q else Ev d 92 15 [l0, l1, l2, l3, l4] [] σ Q := ev_B (c := s0 = 0) d92_8 rfl rfl rfl rfl rfl
theorem d92_11 : decode (ab_C 92) 11 = .ok (.ldc2_w 209, 3) := by decide +kernel
theorem e92_11 {d : Nat} {l0 l1 l2 l3 l4 : Option Value} {σ : ab_St} {Q : Option Value → ab_St → Prop} : Ev d 92 11 [l0, l1, l2, l3, l4] [] σ Q = Ev d 92 14 [l0, l1, l2, l3, l4] [.long (-1)] σ Q := ev_A1 d92_11 rfl
theorem d92_14 : decode (ab_C 92) 14 = .ok (.lreturn, 1) := by decide +kernel
theorem e92_14 {d : Nat} {l0 l1 l2 l3 l4 : Option Value} {s0 : Int64} {σ : ab_St} {Q : Option Value → ab_St → Prop} : Ev d 92 14 [l0, l1, l2, l3, l4] [.long s0] σ Q = Q (some (.long s0)) σ := ev_E d92_14 rfl rfl rfl rfl rfl rfl rfl
theorem d92_15 : decode (ab_C 92) 15 = .ok (.iload_n 2, 1) := by decide +kernel
theorem e92_15 {d : Nat} {l0 l1 l3 l4 : Option Value} {x : Int32} {σ : ab_St} {Q : Option Value → ab_St → Prop} : Ev d 92 15 [l0, l1, some (.int x), l3, l4] [] σ Q = Ev d 92 16 [l0, l1, some (.int x), l3, l4] [.int x] σ Q := ev_A1 d92_15 rfl
theorem d92_16 : decode (ab_C 92) 16 = .ok (.ifCond .lt 19, 3) := by decide +kernel
theorem e92_16 {d : Nat} {l0 l1 l2 l3 l4 : Option Value} {s0 : Int32} {σ : ab_St} {Q : Option Value → ab_St → Prop} : Ev d 92 16 [l0, l1, l2, l3, l4] [.int s0] σ Q = if s0 < 0 then Ev d 92 35 [l0, l1, l2, l3, l4] [] σ Q else Ev d 92 19 [l0, l1, l2, l3, l4] [] σ Q := ev_B (c := s0 < 0) d92_16 rfl rfl rfl rfl rfl
theorem d92_19 : decode (ab_C 92) 19 = .ok (.iload_n 2, 1) := by decide +kernel
theorem e92_19 {d : Nat} {l0 l1 l3 l4 : Option Value} {x : Int32} {σ : ab_St} {Q : Option Value → ab_St → Prop} : Ev d 92 19 [l0, l1, some (.int x), l3, l4] [] σ Q = Ev d 92 20 [l0, l1, some (.int x), l3, l4] [.int x] σ Q := ev_A1 d92_19 rfl
theorem d92_20 : decode (ab_C 92) 20 = .ok (.bipush 6, 2) := by decide +kernel
theorem e92_20 {d : Nat} {l0 l1 l2 l3 l4 : Option Value} {s0 : Int32} {σ : ab_St} {Q : Option Value → ab_St → Prop} : Ev d 92 20 [l0, l1, l2, l3, l4] [.int s0] σ Q = Ev d 92 22 [l0, l1, l2, l3, l4] [.int 6, .int s0] σ Q := ev_A1 d92_20 rfl
theorem d92_22 : decode (ab_C 92) 22 = .ok (.if_icmp .gt 13, 3) := by decide +kernel
theorem e92_22 {d : Nat} {l0 l1 l2 l3 l4 : Option Value} {s0 : Int32} {s1 : Int32} {σ : ab_St} {Q : Option Value → ab_St → Prop} : Ev d 92 22 [l0, l1, l2, l3, l4] [.int s0, .int s1] σ Q = if s0 < s1 then Ev d 92 35 [l0, l1, l2, l3, l4] [] σ Q else Ev d 92 25 [l0, l1, l2, l3, l4] [] σ Q := ev_B (c := s0 < s1) d92_22 rfl rfl rfl rfl rfl
theorem d92_25 : decode (ab_C 92) 25 = .ok (.iload_n 3, 1) := by decide +kernel
theorem e92_25 {d : Nat} {l0 l1 l2 l4 : Option Value} {x : Int32} {σ : ab_St} {Q : Option Value → ab_St → Prop} : Ev d 92 25 [l0, l1, l2, some (.int x), l4] [] σ Q = Ev d 92 26 [l0, l1, l2, some (.int x), l4] [.int x] σ Q := ev_A1 d92_25 rfl
theorem d92_26 : decode (ab_C 92) 26 = .ok (.ifCond .lt 9, 3) := by decide +kernel
theorem e92_26 {d : Nat} {l0 l1 l2 l3 l4 : Option Value} {s0 : Int32} {σ : ab_St} {Q : Option Value → ab_St → Prop} : Ev d 92 26 [l0, l1, l2, l3, l4] [.int s0] σ Q = if s0 < 0 then Ev d 92 35 [l0, l1, l2, l3, l4] [] σ Q else Ev d 92 29 [l0, l1, l2, l3, l4] [] σ Q := ev_B (c := s0 < 0) d92_26 rfl rfl rfl rfl rfl
theorem d92_29 : decode (ab_C 92) 29 = .ok (.iload_n 3, 1) := by decide +kernel
theorem e92_29 {d : Nat} {l0 l1 l2 l4 : Option Value} {x : Int32} {σ : ab_St} {Q : Option Value → ab_St → Prop} : Ev d 92 29 [l0, l1, l2, some (.int x), l4] [] σ Q = Ev d 92 30 [l0, l1, l2, some (.int x), l4] [.int x] σ Q := ev_A1 d92_29 rfl
theorem d92_30 : decode (ab_C 92) 30 = .ok (.bipush 10, 2) := by decide +kernel
theorem e92_30 {d : Nat} {l0 l1 l2 l3 l4 : Option Value} {s0 : Int32} {σ : ab_St} {Q : Option Value → ab_St → Prop} : Ev d 92 30 [l0, l1, l2, l3, l4] [.int s0] σ Q = Ev d 92 32 [l0, l1, l2, l3, l4] [.int 10, .int s0] σ Q := ev_A1 d92_30 rfl
theorem d92_32 : decode (ab_C 92) 32 = .ok (.if_icmp .le 7, 3) := by decide +kernel
theorem e92_32 {d : Nat} {l0 l1 l2 l3 l4 : Option Value} {s0 : Int32} {s1 : Int32} {σ : ab_St} {Q : Option Value → ab_St → Prop} : Ev d 92 32 [l0, l1, l2, l3, l4] [.int s0, .int s1] σ Q = if s1 ≤ s0 then Ev d 92 39 [l0, l1, l2, l3, l4] [] σ Q else Ev d 92 35 [l0, l1, l2, l3, l4] [] σ Q := ev_B (c := s1 ≤ s0) d92_32 rfl rfl rfl rfl rfl
theorem d92_35 : decode (ab_C 92) 35 = .ok (.ldc2_w 203, 3) := by decide +kernel
theorem e92_35 {d : Nat} {l0 l1 l2 l3 l4 : Option Value} {σ : ab_St} {Q : Option Value → ab_St → Prop} : Ev d 92 35 [l0, l1, l2, l3, l4] [] σ Q = Ev d 92 38 [l0, l1, l2, l3, l4] [.long (-2)] σ Q := ev_A1 d92_35 rfl
theorem d92_38 : decode (ab_C 92) 38 = .ok (.lreturn, 1) := by decide +kernel
theorem e92_38 {d : Nat} {l0 l1 l2 l3 l4 : Option Value} {s0 : Int64} {σ : ab_St} {Q : Option Value → ab_St → Prop} : Ev d 92 38 [l0, l1, l2, l3, l4] [.long s0] σ Q = Q (some (.long s0)) σ := ev_E d92_38 rfl rfl rfl rfl rfl rfl rfl
theorem d92_39 : decode (ab_C 92) 39 = .ok (.aload_n 0, 1) := by decide +kernel
theorem e92_39 {d : Nat} {l1 l2 l3 l4 : Option Value} {x : Nat} {σ : ab_St} {Q : Option Value → ab_St → Prop} : Ev d 92 39 [some (.ref x), l1, l2, l3, l4] [] σ Q = Ev d 92 40 [some (.ref x), l1, l2, l3, l4] [.ref x] σ Q := ev_A1 d92_39 rfl
theorem d92_40 : decode (ab_C 92) 40 = .ok (.getfield 68, 3) := by decide +kernel
theorem e92_40 {d : Nat} {l0 l1 l2 l3 l4 : Option Value} {s0 : Nat} {σ : ab_St} {Q : Option Value → ab_St → Prop} : Ev d 92 40 [l0, l1, l2, l3, l4] [.ref s0] σ Q = (ab_k s0 = 0 ∧ Ev d 92 43 [l0, l1, l2, l3, l4] [.ref (ab_r s0 9)] σ Q) := ev_Hc (c := ab_k s0 = 0) d92_40 rfl rfl rfl rfl rfl rfl rfl rfl
theorem d92_43 : decode (ab_C 92) 43 = .ok (.aload_n 0, 1) := by decide +kernel
theorem e92_43 {d : Nat} {l1 l2 l3 l4 : Option Value} {x : Nat} {s0 : Nat} {σ : ab_St} {Q : Option Value → ab_St → Prop} : Ev d 92 43 [some (.ref x), l1, l2, l3, l4] [.ref s0] σ Q = Ev d 92 44 [some (.ref x), l1, l2, l3, l4] [.ref x, .ref s0] σ Q := ev_A1 d92_43 rfl
theorem d92_44 : decode (ab_C 92) 44 = .ok (.getfield 33, 3) := by decide +kernel
theorem e92_44 {d : Nat} {l0 l1 l2 l3 l4 : Option Value} {s0 : Nat} {s1 : Nat} {σ : ab_St} {Q : Option Value → ab_St → Prop} : Ev d 92 44 [l0, l1, l2, l3, l4] [.ref s0, .ref s1] σ Q = (ab_k s0 = 0 ∧ Ev d 92 47 [l0, l1, l2, l3, l4] [.ref (ab_r s0 3), .ref s1] σ Q) := ev_Hc (c := ab_k s0 = 0) d92_44 rfl rfl rfl rfl rfl rfl rfl rfl
theorem d92_47 : decode (ab_C 92) 47 = .ok (.iload_n 1, 1) := by decide +kernel
theorem e92_47 {d : Nat} {l0 l2 l3 l4 : Option Value} {x : Int32} {s0 : Nat} {s1 : Nat} {σ : ab_St} {Q : Option Value → ab_St → Prop} : Ev d 92 47 [l0, some (.int x), l2, l3, l4] [.ref s0, .ref s1] σ Q = Ev d 92 48 [l0, some (.int x), l2, l3, l4] [.int x, .ref s0, .ref s1] σ Q := ev_A1 d92_47 rfl
theorem d92_48 : decode (ab_C 92) 48 = .ok (.iload_n 2, 1) := by decide +kernel
theorem e92_48 {d : Nat} {l0 l1 l3 l4 : Option Value} {x : Int32} {s0 : Int32} {s1 : Nat} {s2 : Nat} {σ : ab_St} {Q : Option Value → ab_St → Prop} : Ev d 92 48 [l0, l1, some (.int x), l3, l4] [.int s0, .ref s1, .ref s2] σ Q = Ev d 92 49 [l0, l1, some (.int x), l3, l4] [.int x, .int s0, .ref s1, .ref s2] σ Q := ev_A1 d92_48 rfl
theorem d92_49 : decode (ab_C 92) 49 = .ok (.iload_n 3, 1) := by decide +kernel
theorem e92_49 {d : Nat} {l0 l1 l2 l4 : Option Value} {x : Int32} {s0 : Int32} {s1 : Int32} {s2 : Nat} {s3 : Nat} {σ : ab_St} {Q : Option Value → ab_St → Prop} : Ev d 92 49 [l0, l1, l2, some (.int x), l4] [.int s0, .int s1, .ref s2, .ref s3] σ Q = Ev d 92 50 [l0, l1, l2, some (.int x), l4] [.int x, .int s0, .int s1, .ref s2, .ref s3] σ Q := ev_A1 d92_49 rfl
theorem d92_50 : decode (ab_C 92) 50 = .ok (.invokevirtual 211, 3) := by decide +kernel
theorem e92_50 {d : Nat} {l0 l1 l2 l3 l4 : Option Value} {s0 : Int32} {s1 : Int32} {s2 : Int32} {s3 : Nat} {s4 : Nat} {σ : ab_St} {Q : Option Value → ab_St → Prop} : Ev (d + 1) 92 50 [l0, l1, l2, l3, l4] [.int s0, .int s1, .int s2, .ref s3, .ref s4] σ Q = (ab_k s4 = 9 ∧ Ev d 93 0 [some (.ref s4), some (.ref s3), some (.int s2), some (.int s1), some (.int s0), none] [] σ (fun r σ2 => Ev (d + 1) 92 53 [l0, l1, l2, l3, l4] (r.toList ++ []) σ2 Q)) := ev_KV (b := s4) (ls := [l0, l1, l2, l3, l4]) (st := [.int s0, .int s1, .int s2, .ref s3, .ref s4]) (as := [.ref s3, .int s2, .int s1, .int s0]) (rest := []) d92_50 rfl rfl rfl (Nat.le_of_ble_eq_true rfl) (Nat.le_of_ble_eq_true rfl) (Nat.le_of_ble_eq_true rfl) rfl rfl rfl rfl rfl rfl rfl
theorem d92_53 : decode (ab_C 92) 53 = .ok (.iload 4, 2) := by decide +kernel
theorem e92_53 {d : Nat} {l0 l1 l2 l3 : Option Value} {x : Int32} {σ : ab_St} {Q : Option Value → ab_St → Prop} : Ev d 92 53 [l0, l1, l2, l3, some (.int x)] [] σ Q = Ev d 92 55 [l0, l1, l2, l3, some (.int x)] [.int x] σ Q := ev_A1 d92_53 rfl
theorem d92_55 : decode (ab_C 92) 55 = .ok (.ifCond .eq 13, 3) := by decide +kernel
theorem e92_55 {d : Nat} {l0 l1 l2 l3 l4 : Option Value} {s0 : Int32} {σ : ab_St} {Q : Option Value → ab_St → Prop} : Ev d 92 55 [l0, l1, l2, l3, l4] [.int s0] σ Q = if s0 = 0 then Ev d 92 68 [l0, l1, l2, l3, l4] [] σ Q else Ev d 92 58 [l0, l1, l2, l3, l4] [] σ Q := ev_B (c := s0 = 0) d92_55 rfl rfl rfl rfl rfl
theorem d92_58 : decode (ab_C 92) 58 = .ok (.aload_n 0, 1) := by decide +kernel
theorem e92_58 {d : Nat} {l1 l2 l3 l4 : Option Value} {x : Nat} {σ : ab_St} {Q : Option Value → ab_St → Prop} : Ev d 92 58 [some (.ref x), l1, l2, l3, l4] [] σ Q = Ev d 92 59 [some (.ref x), l1, l2, l3, l4] [.ref x] σ Q := ev_A1 d92_58 rfl
theorem d92_59 : decode (ab_C 92) 59 = .ok (.getfield 68, 3) := by decide +kernel
theorem e92_59 {d : Nat} {l0 l1 l2 l3 l4 : Option Value} {s0 : Nat} {σ : ab_St} {Q : Option Value → ab_St → Prop} : Ev d 92 59 [l0, l1, l2, l3, l4] [.ref s0] σ Q = (ab_k s0 = 0 ∧ Ev d 92 62 [l0, l1, l2, l3, l4] [.ref (ab_r s0 9)] σ Q) := ev_Hc (c := ab_k s0 = 0) d92_59 rfl rfl rfl rfl rfl rfl rfl rfl
theorem d92_62 : decode (ab_C 92) 62 = .ok (.getfield 215, 3) := by decide +kernel
theorem e92_62 {d : Nat} {l0 l1 l2 l3 l4 : Option Value} {s0 : Nat} {σ : ab_St} {Q : Option Value → ab_St → Prop} : Ev d 92 62 [l0, l1, l2, l3, l4] [.ref s0] σ Q = (ab_k s0 = 9 ∧ Ev d 92 65 [l0, l1, l2, l3, l4] [.long (σ.2 s0 2)] σ Q) := ev_Hc (c := ab_k s0 = 9) d92_62 rfl rfl rfl rfl rfl rfl rfl rfl
theorem d92_65 : decode (ab_C 92) 65 = .ok (.goto 10, 3) := by decide +kernel
theorem e92_65 {d : Nat} {l0 l1 l2 l3 l4 : Option Value} {s0 : Int64} {σ : ab_St} {Q : Option Value → ab_St → Prop} : Ev d 92 65 [l0, l1, l2, l3, l4] [.long s0] σ Q = Ev d 92 75 [l0, l1, l2, l3, l4] [.long s0] σ Q := ev_J d92_65 rfl rfl rfl rfl rfl
theorem d92_68 : decode (ab_C 92) 68 = .ok (.aload_n 0, 1) := by decide +kernel
theorem e92_68 {d : Nat} {l1 l2 l3 l4 : Option Value} {x : Nat} {σ : ab_St} {Q : Option Value → ab_St → Prop} : Ev d 92 68 [some (.ref x), l1, l2, l3, l4] [] σ Q = Ev d 92 69 [some (.ref x), l1, l2, l3, l4] [.ref x] σ Q := ev_A1 d92_68 rfl
theorem d92_69 : decode (ab_C 92) 69 = .ok (.getfield 68, 3) := by decide +kernel
theorem e92_69 {d : Nat} {l0 l1 l2 l3 l4 : Option Value} {s0 : Nat} {σ : ab_St} {Q : Option Value → ab_St → Prop} : Ev d 92 69 [l0, l1, l2, l3, l4] [.ref s0] σ Q = (ab_k s0 = 0 ∧ Ev d 92 72 [l0, l1, l2, l3, l4] [.ref (ab_r s0 9)] σ Q) := ev_Hc (c := ab_k s0 = 0) d92_69 rfl rfl rfl rfl rfl rfl rfl rfl
theorem d92_72 : decode (ab_C 92) 72 = .ok (.getfield 219, 3) := by decide +kernel
theorem e92_72 {d : Nat} {l0 l1 l2 l3 l4 : Option Value} {s0 : Nat} {σ : ab_St} {Q : Option Value → ab_St → Prop} : Ev d 92 72 [l0, l1, l2, l3, l4] [.ref s0] σ Q = (ab_k s0 = 9 ∧ Ev d 92 75 [l0, l1, l2, l3, l4] [.long (σ.2 s0 3)] σ Q) := ev_Hc (c := ab_k s0 = 9) d92_72 rfl rfl rfl rfl rfl rfl rfl rfl
theorem d92_75 : decode (ab_C 92) 75 = .ok (.lreturn, 1) := by decide +kernel
theorem e92_75 {d : Nat} {l0 l1 l2 l3 l4 : Option Value} {s0 : Int64} {σ : ab_St} {Q : Option Value → ab_St → Prop} : Ev d 92 75 [l0, l1, l2, l3, l4] [.long s0] σ Q = Q (some (.long s0)) σ := ev_E d92_75 rfl rfl rfl rfl rfl rfl rfl
