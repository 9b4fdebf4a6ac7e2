/-! SaidLeast$State.mostWords()I -/
theorem d55_0 : decode (ab_C 55) 0 = .ok (.iconst 0, 1) := by decide +kernel
theorem e55_0 {d : Nat} {l0 l1 l2 : Option Value} {σ : ab_St} {Q : Option Value → ab_St → Prop} : Ev d 55 0 [l0, l1, l2] [] σ Q = Ev d 55 1 [l0, l1, l2] [.int 0] σ Q := ev_A1 d55_0 rfl
theorem d55_1 : decode (ab_C 55) 1 = .ok (.istore_n 1, 1) := by decide +kernel
theorem e55_1 {d : Nat} {l0 l1 l2 : Option Value} {s0 : Int32} {σ : ab_St} {Q : Option Value → ab_St → Prop} : Ev d 55 1 [l0, l1, l2] [.int s0] σ Q = Ev d 55 2 [l0, some (.int s0), l2] [] σ Q := ev_S d55_1 rfl rfl rfl rfl
theorem d55_2 : decode (ab_C 55) 2 = .ok (.iconst 0, 1) := by decide +kernel
theorem e55_2 {d : Nat} {l0 l1 l2 : Option Value} {σ : ab_St} {Q : Option Value → ab_St → Prop} : Ev d 55 2 [l0, l1, l2] [] σ Q = Ev d 55 3 [l0, l1, l2] [.int 0] σ Q := ev_A1 d55_2 rfl
theorem d55_3 : decode (ab_C 55) 3 = .ok (.istore_n 2, 1) := by decide +kernel
theorem e55_3 {d : Nat} {l0 l1 l2 : Option Value} {s0 : Int32} {σ : ab_St} {Q : Option Value → ab_St → Prop} : Ev d 55 3 [l0, l1, l2] [.int s0] σ Q = Ev d 55 4 [l0, l1, some (.int s0)] [] σ Q := ev_S d55_3 rfl rfl rfl rfl
theorem d55_4 : decode (ab_C 55) 4 = .ok (.iload_n 2, 1) := by decide +kernel
theorem e55_4 {d : Nat} {l0 l1 : Option Value} {x : Int32} {σ : ab_St} {Q : Option Value → ab_St → Prop} : Ev d 55 4 [l0, l1, some (.int x)] [] σ Q = Ev d 55 5 [l0, l1, some (.int x)] [.int x] σ Q := ev_A1 d55_4 rfl
theorem d55_5 : decode (ab_C 55) 5 = .ok (.bipush 6, 2) := by decide +kernel
theorem e55_5 {d : Nat} {l0 l1 l2 : Option Value} {s0 : Int32} {σ : ab_St} {Q : Option Value → ab_St → Prop} : Ev d 55 5 [l0, l1, l2] [.int s0] σ Q = Ev d 55 7 [l0, l1, l2] [.int 6, .int s0] σ Q := ev_A1 d55_5 rfl
theorem d55_7 : decode (ab_C 55) 7 = .ok (.if_icmp .ge 31, 3) := by decide +kernel
theorem e55_7 {d : Nat} {l0 l1 l2 : Option Value} {s0 : Int32} {s1 : Int32} {σ : ab_St} {Q : Option Value → ab_St → Prop} : Ev d 55 7 [l0, l1, l2] [.int s0, .int s1] σ Q = if s0 ≤ s1 then Ev d 55 38 [l0, l1, l2] [] σ Q else Ev d 55 10 [l0, l1, l2] [] σ Q := ev_B (c := s0 ≤ s1) d55_7 rfl rfl rfl rfl rfl
theorem d55_10 : decode (ab_C 55) 10 = .ok (.aload_n 0, 1) := by decide +kernel
theorem e55_10 {d : Nat} {l1 l2 : Option Value} {x : Nat} {σ : ab_St} {Q : Option Value → ab_St → Prop} : Ev d 55 10 [some (.ref x), l1, l2] [] σ Q = Ev d 55 11 [some (.ref x), l1, l2] [.ref x] σ Q := ev_A1 d55_10 rfl
theorem d55_11 : decode (ab_C 55) 11 = .ok (.getfield 25, 3) := by decide +kernel
theorem e55_11 {d : Nat} {l0 l1 l2 : Option Value} {s0 : Nat} {σ : ab_St} {Q : Option Value → ab_St → Prop} : Ev d 55 11 [l0, l1, l2] [.ref s0] σ Q = (ab_k s0 = 4 ∧ Ev d 55 14 [l0, l1, l2] [.int (σ.1 s0 1)] σ Q) := ev_Hc (c := ab_k s0 = 4) d55_11 rfl rfl rfl rfl rfl rfl rfl rfl
theorem d55_14 : decode (ab_C 55) 14 = .ok (.iload_n 2, 1) := by decide +kernel
theorem e55_14 {d : Nat} {l0 l1 : Option Value} {x : Int32} {s0 : Int32} {σ : ab_St} {Q : Option Value → ab_St → Prop} : Ev d 55 14 [l0, l1, some (.int x)] [.int s0] σ Q = Ev d 55 15 [l0, l1, some (.int x)] [.int x, .int s0] σ Q := ev_A1 d55_14 rfl
theorem d55_15 : decode (ab_C 55) 15 = .ok (.invokestatic 40, 3) := by decide +kernel
theorem e55_15 {d : Nat} {l0 l1 l2 : Option Value} {s0 : Int32} {s1 : Int32} {σ : ab_St} {Q : Option Value → ab_St → Prop} : Ev (d + 1) 55 15 [l0, l1, l2] [.int s0, .int s1] σ Q = Ev d 32 0 [some (.int s1), some (.int s0)] [] σ (fun r σ2 => Ev (d + 1) 55 18 [l0, l1, l2] (r.toList ++ []) σ2 Q) := ev_K0 (y := 32) (ls := [l0, l1, l2]) (st := [.int s0, .int s1]) (as := [.int s1, .int s0]) (rest := []) d55_15 rfl rfl rfl rfl rfl rfl rfl rfl
theorem d55_18 : decode (ab_C 55) 18 = .ok (.ifCond .eq 14, 3) := by decide +kernel
theorem e55_18 {d : Nat} {l0 l1 l2 : Option Value} {s0 : Int32} {σ : ab_St} {Q : Option Value → ab_St → Prop} : Ev d 55 18 [l0, l1, l2] [.int s0] σ Q = if s0 = 0 then Ev d 55 32 [l0, l1, l2] [] σ Q else Ev d 55 21 [l0, l1, l2] [] σ Q := ev_B (c := s0 = 0) d55_18 rfl rfl rfl rfl rfl
theorem d55_21 : decode (ab_C 55) 21 = .ok (.iload_n 1, 1) := by decide +kernel
theorem e55_21 {d : Nat} {l0 l2 : Option Value} {x : Int32} {σ : ab_St} {Q : Option Value → ab_St → Prop} : Ev d 55 21 [l0, some (.int x), l2] [] σ Q = Ev d 55 22 [l0, some (.int x), l2] [.int x] σ Q := ev_A1 d55_21 rfl
theorem d55_22 : decode (ab_C 55) 22 = .ok (.aload_n 0, 1) := by decide +kernel
theorem e55_22 {d : Nat} {l1 l2 : Option Value} {x : Nat} {s0 : Int32} {σ : ab_St} {Q : Option Value → ab_St → Prop} : Ev d 55 22 [some (.ref x), l1, l2] [.int s0] σ Q = Ev d 55 23 [some (.ref x), l1, l2] [.ref x, .int s0] σ Q := ev_A1 d55_22 rfl
theorem d55_23 : decode (ab_C 55) 23 = .ok (.getfield 9, 3) := by decide +kernel
theorem e55_23 {d : Nat} {l0 l1 l2 : Option Value} {s0 : Nat} {s1 : Int32} {σ : ab_St} {Q : Option Value → ab_St → Prop} : Ev d 55 23 [l0, l1, l2] [.ref s0, .int s1] σ Q = (ab_k s0 = 4 ∧ Ev d 55 26 [l0, l1, l2] [.ref (ab_r s0 0), .int s1] σ Q) := ev_Hc (c := ab_k s0 = 4) d55_23 rfl rfl rfl rfl rfl rfl rfl rfl
theorem d55_26 : decode (ab_C 55) 26 = .ok (.iload_n 2, 1) := by decide +kernel
theorem e55_26 {d : Nat} {l0 l1 : Option Value} {x : Int32} {s0 : Nat} {s1 : Int32} {σ : ab_St} {Q : Option Value → ab_St → Prop} : Ev d 55 26 [l0, l1, some (.int x)] [.ref s0, .int s1] σ Q = Ev d 55 27 [l0, l1, some (.int x)] [.int x, .ref s0, .int s1] σ Q := ev_A1 d55_26 rfl
theorem d55_27 : decode (ab_C 55) 27 = .ok (.iaload, 1) := by decide +kernel
theorem e55_27 {d : Nat} {l0 l1 l2 : Option Value} {s0 : Int32} {s1 : Nat} {s2 : Int32} {σ : ab_St} {Q : Option Value → ab_St → Prop} : Ev d 55 27 [l0, l1, l2] [.int s0, .ref s1, .int s2] σ Q = ((ab_k s1 = 100 ∧ ab_in s0 (ab_n s1)) ∧ Ev d 55 28 [l0, l1, l2] [.int (σ.1 s1 s0.toNatClampNeg), .int s2] σ Q) := ev_Hc (c := ab_k s1 = 100 ∧ ab_in s0 (ab_n s1)) d55_27 rfl rfl rfl rfl rfl rfl rfl rfl
theorem d55_28 : decode (ab_C 55) 28 = .ok (.invokestatic 44, 3) := by decide +kernel
theorem e55_28 {d : Nat} {l0 l1 l2 : Option Value} {s0 : Int32} {s1 : Int32} {σ : ab_St} {Q : Option Value → ab_St → Prop} : Ev (d + 1) 55 28 [l0, l1, l2] [.int s0, .int s1] σ Q = Ev (d + 1) 55 31 [l0, l1, l2] [.int (if s1 < s0 then s0 else s1)] σ Q := ev_X d55_28 rfl rfl (ab_X_ok (k := 0) (st := []) rfl (Nat.le_of_ble_eq_true rfl))
theorem d55_31 : decode (ab_C 55) 31 = .ok (.istore_n 1, 1) := by decide +kernel
theorem e55_31 {d : Nat} {l0 l1 l2 : Option Value} {s0 : Int32} {σ : ab_St} {Q : Option Value → ab_St → Prop} : Ev d 55 31 [l0, l1, l2] [.int s0] σ Q = Ev d 55 32 [l0, some (.int s0), l2] [] σ Q := ev_S d55_31 rfl rfl rfl rfl
theorem d55_32 : decode (ab_C 55) 32 = .ok (.iinc 2 1, 3) := by decide +kernel
theorem e55_32 {d : Nat} {l0 l1 : Option Value} {x : Int32} {σ : ab_St} {Q : Option Value → ab_St → Prop} : Ev d 55 32 [l0, l1, some (.int x)] [] σ Q = Ev d 55 35 [l0, l1, some (.int (x + 1))] [] σ Q := ev_S d55_32 rfl rfl rfl rfl
theorem d55_35 : decode (ab_C 55) 35 = .ok (.goto (-31), 3) := by decide +kernel
theorem e55_35 {d : Nat} {l0 l1 l2 : Option Value} {σ : ab_St} {Q : Option Value → ab_St → Prop} : Ev d 55 35 [l0, l1, l2] [] σ Q = Ev d 55 4 [l0, l1, l2] [] σ Q := ev_J d55_35 rfl rfl rfl rfl rfl
theorem d55_38 : decode (ab_C 55) 38 = .ok (.iload_n 1, 1) := by decide +kernel
theorem e55_38 {d : Nat} {l0 l2 : Option Value} {x : Int32} {σ : ab_St} {Q : Option Value → ab_St → Prop} : Ev d 55 38 [l0, some (.int x), l2] [] σ Q = Ev d 55 39 [l0, some (.int x), l2] [.int x] σ Q := ev_A1 d55_38 rfl
theorem d55_39 : decode (ab_C 55) 39 = .ok (.ireturn, 1) := by decide +kernel
theorem e55_39 {d : Nat} {l0 l1 l2 : Option Value} {s0 : Int32} {σ : ab_St} {Q : Option Value → ab_St → Prop} : Ev d 55 39 [l0, l1, l2] [.int s0] σ Q = Q (some (.int s0)) σ := ev_E d55_39 rfl rfl rfl rfl rfl rfl rfl
/-! SaidLeast.go(I)I -/
theorem d57_0 : decode (ab_C 57) 0 = .ok (.aload_n 0, 1) := by decide +kernel
theorem e57_0 {d : Nat} {l1 : Option Value} {x : Nat} {σ : ab_St} {Q : Option Value → ab_St → Prop} : Ev d 57 0 [some (.ref x), l1] [] σ Q = Ev d 57 1 [some (.ref x), l1] [.ref x] σ Q := ev_A1 d57_0 rfl
theorem d57_1 : decode (ab_C 57) 1 = .ok (.getfield 26, 3) := by decide +kernel
theorem e57_1 {d : Nat} {l0 l1 : Option Value} {s0 : Nat} {σ : ab_St} {Q : Option Value → ab_St → Prop} : Ev d 57 1 [l0, l1] [.ref s0] σ Q = (ab_k s0 = 0 ∧ Ev d 57 4 [l0, l1] [.ref (ab_r s0 2)] σ Q) := ev_Hc (c := ab_k s0 = 0) d57_1 rfl rfl rfl rfl rfl rfl rfl rfl
theorem d57_4 : decode (ab_C 57) 4 = .ok (.iload_n 1, 1) := by decide +kernel
theorem e57_4 {d : Nat} {l0 : Option Value} {x : Int32} {s0 : Nat} {σ : ab_St} {Q : Option Value → ab_St → Prop} : Ev d 57 4 [l0, some (.int x)] [.ref s0] σ Q = Ev d 57 5 [l0, some (.int x)] [.int x, .ref s0] σ Q := ev_A1 d57_4 rfl
theorem d57_5 : decode (ab_C 57) 5 = .ok (.invokevirtual 133, 3) := by decide +kernel
theorem e57_5 {d : Nat} {l0 l1 : Option Value} {s0 : Int32} {s1 : Nat} {σ : ab_St} {Q : Option Value → ab_St → Prop} : Ev (d + 1) 57 5 [l0, l1] [.int s0, .ref s1] σ Q = (ab_k s1 = 3 ∧ Ev d 26 0 [some (.ref s1), some (.int s0)] [] σ (fun r σ2 => Ev (d + 1) 57 8 [l0, l1] (r.toList ++ []) σ2 Q)) := ev_KV (b := s1) (ls := [l0, l1]) (st := [.int s0, .ref s1]) (as := [.int s0]) (rest := []) d57_5 rfl rfl rfl (Nat.le_of_ble_eq_true rfl) (Nat.le_of_ble_eq_true rfl) (Nat.le_of_ble_eq_true rfl) rfl rfl rfl rfl rfl rfl rfl
theorem d57_8 : decode (ab_C 57) 8 = .ok (.ifCond .ne 5, 3) := by decide +kernel
theorem e57_8 {d : Nat} {l0 l1 : Option Value} {s0 : Int32} {σ : ab_St} {Q : Option Value → ab_St → Prop} : Ev d 57 8 [l0, l1] [.int s0] σ Q = if s0 = 0 then Ev d 57 11 [l0, l1] [] σ Q else Ev d 57 13 [l0, l1] [] σ Q := ev_B (c := s0 = 0) d57_8 rfl rfl rfl rfl rfl
theorem d57_11 : decode (ab_C 57) 11 = .ok (.iconst (-1), 1) := by decide +kernel
theorem e57_11 {d : Nat} {l0 l1 : Option Value} {σ : ab_St} {Q : Option Value → ab_St → Prop} : Ev d 57 11 [l0, l1] [] σ Q = Ev d 57 12 [l0, l1] [.int (-1)] σ Q := ev_A1 d57_11 rfl
theorem d57_12 : decode (ab_C 57) 12 = .ok (.ireturn, 1) := by decide +kernel
theorem e57_12 {d : Nat} {l0 l1 : Option Value} {s0 : Int32} {σ : ab_St} {Q : Option Value → ab_St → Prop} : Ev d 57 12 [l0, l1] [.int s0] σ Q = Q (some (.int s0)) σ := ev_E d57_12 rfl rfl rfl rfl rfl rfl rfl
theorem d57_13 : decode (ab_C 57) 13 = .ok (.aload_n 0, 1) := by decide +kernel
theorem e57_13 {d : Nat} {l1 : Option Value} {x : Nat} {σ : ab_St} {Q : Option Value → ab_St → Prop} : Ev d 57 13 [some (.ref x), l1] [] σ Q = Ev d 57 14 [some (.ref x), l1] [.ref x] σ Q := ev_A1 d57_13 rfl
theorem d57_14 : decode (ab_C 57) 14 = .ok (.getfield 33, 3) := by decide +kernel
theorem e57_14 {d : Nat} {l0 l1 : Option Value} {s0 : Nat} {σ : ab_St} {Q : Option Value → ab_St → Prop} : Ev d 57 14 [l0, l1] [.ref s0] σ Q = (ab_k s0 = 0 ∧ Ev d 57 17 [l0, l1] [.ref (ab_r s0 3)] σ Q) := ev_Hc (c := ab_k s0 = 0) d57_14 rfl rfl rfl rfl rfl rfl rfl rfl
theorem d57_17 : decode (ab_C 57) 17 = .ok (.getfield 110, 3) := by decide +kernel
theorem e57_17 {d : Nat} {l0 l1 : Option Value} {s0 : Nat} {σ : ab_St} {Q : Option Value → ab_St → Prop} : Ev d 57 17 [l0, l1] [.ref s0] σ Q = (ab_k s0 = 4 ∧ Ev d 57 20 [l0, l1] [.int (σ.1 s0 1)] σ Q) := ev_Hc (c := ab_k s0 = 4) d57_17 rfl rfl rfl rfl rfl rfl rfl rfl
theorem d57_20 : decode (ab_C 57) 20 = .ok (.iload_n 1, 1) := by decide +kernel
theorem e57_20 {d : Nat} {l0 : Option Value} {x : Int32} {s0 : Int32} {σ : ab_St} {Q : Option Value → ab_St → Prop} : Ev d 57 20 [l0, some (.int x)] [.int s0] σ Q = Ev d 57 21 [l0, some (.int x)] [.int x, .int s0] σ Q := ev_A1 d57_20 rfl
theorem d57_21 : decode (ab_C 57) 21 = .ok (.invokestatic 141, 3) := by decide +kernel
theorem e57_21 {d : Nat} {l0 l1 : Option Value} {s0 : Int32} {s1 : Int32} {σ : ab_St} {Q : Option Value → ab_St → Prop} : Ev (d + 1) 57 21 [l0, l1] [.int s0, .int s1] σ Q = Ev d 32 0 [some (.int s1), some (.int s0)] [] σ (fun r σ2 => Ev (d + 1) 57 24 [l0, l1] (r.toList ++ []) σ2 Q) := ev_K0 (y := 32) (ls := [l0, l1]) (st := [.int s0, .int s1]) (as := [.int s1, .int s0]) (rest := []) d57_21 rfl rfl rfl rfl rfl rfl rfl rfl
theorem d57_24 : decode (ab_C 57) 24 = .ok (.ifCond .ne 6, 3) := by decide +kernel
theorem e57_24 {d : Nat} {l0 l1 : Option Value} {s0 : Int32} {σ : ab_St} {Q : Option Value → ab_St → Prop} : Ev d 57 24 [l0, l1] [.int s0] σ Q = if s0 = 0 then Ev d 57 27 [l0, l1] [] σ Q else Ev d 57 30 [l0, l1] [] σ Q := ev_B (c := s0 = 0) d57_24 rfl rfl rfl rfl rfl
theorem d57_27 : decode (ab_C 57) 27 = .ok (.bipush (-3), 2) := by decide +kernel
theorem e57_27 {d : Nat} {l0 l1 : Option Value} {σ : ab_St} {Q : Option Value → ab_St → Prop} : Ev d 57 27 [l0, l1] [] σ Q = Ev d 57 29 [l0, l1] [.int (-3)] σ Q := ev_A1 d57_27 rfl
theorem d57_29 : decode (ab_C 57) 29 = .ok (.ireturn, 1) := by decide +kernel
theorem e57_29 {d : Nat} {l0 l1 : Option Value} {s0 : Int32} {σ : ab_St} {Q : Option Value → ab_St → Prop} : Ev d 57 29 [l0, l1] [.int s0] σ Q = Q (some (.int s0)) σ := ev_E d57_29 rfl rfl rfl rfl rfl rfl rfl
theorem d57_30 : decode (ab_C 57) 30 = .ok (.aload_n 0, 1) := by decide +kernel
theorem e57_30 {d : Nat} {l1 : Option Value} {x : Nat} {σ : ab_St} {Q : Option Value → ab_St → Prop} : Ev d 57 30 [some (.ref x), l1] [] σ Q = Ev d 57 31 [some (.ref x), l1] [.ref x] σ Q := ev_A1 d57_30 rfl
theorem d57_31 : decode (ab_C 57) 31 = .ok (.getfield 43, 3) := by decide +kernel
theorem e57_31 {d : Nat} {l0 l1 : Option Value} {s0 : Nat} {σ : ab_St} {Q : Option Value → ab_St → Prop} : Ev d 57 31 [l0, l1] [.ref s0] σ Q = (ab_k s0 = 0 ∧ Ev d 57 34 [l0, l1] [.ref (ab_r s0 5)] σ Q) := ev_Hc (c := ab_k s0 = 0) d57_31 rfl rfl rfl rfl rfl rfl rfl rfl
theorem d57_34 : decode (ab_C 57) 34 = .ok (.aload_n 0, 1) := by decide +kernel
theorem e57_34 {d : Nat} {l1 : Option Value} {x : Nat} {s0 : Nat} {σ : ab_St} {Q : Option Value → ab_St → Prop} : Ev d 57 34 [some (.ref x), l1] [.ref s0] σ Q = Ev d 57 35 [some (.ref x), l1] [.ref x, .ref s0] σ Q := ev_A1 d57_34 rfl
theorem d57_35 : decode (ab_C 57) 35 = .ok (.getfield 33, 3) := by decide +kernel
theorem e57_35 {d : Nat} {l0 l1 : Option Value} {s0 : Nat} {s1 : Nat} {σ : ab_St} {Q : Option Value → ab_St → Prop} : Ev d 57 35 [l0, l1] [.ref s0, .ref s1] σ Q = (ab_k s0 = 0 ∧ Ev d 57 38 [l0, l1] [.ref (ab_r s0 3), .ref s1] σ Q) := ev_Hc (c := ab_k s0 = 0) d57_35 rfl rfl rfl rfl rfl rfl rfl rfl
theorem d57_38 : decode (ab_C 57) 38 = .ok (.iload_n 1, 1) := by decide +kernel
theorem e57_38 {d : Nat} {l0 : Option Value} {x : Int32} {s0 : Nat} {s1 : Nat} {σ : ab_St} {Q : Option Value → ab_St → Prop} : Ev d 57 38 [l0, some (.int x)] [.ref s0, .ref s1] σ Q = Ev d 57 39 [l0, some (.int x)] [.int x, .ref s0, .ref s1] σ Q := ev_A1 d57_38 rfl
theorem d57_39 : decode (ab_C 57) 39 = .ok (.invokevirtual 165, 3) := by decide +kernel
theorem e57_39 {d : Nat} {l0 l1 : Option Value} {s0 : Int32} {s1 : Nat} {s2 : Nat} {σ : ab_St} {Q : Option Value → ab_St → Prop} : Ev (d + 1) 57 39 [l0, l1] [.int s0, .ref s1, .ref s2] σ Q = (ab_k s2 = 5 ∧ Ev d 48 0 [some (.ref s2), some (.ref s1), some (.int s0), none] [] σ (fun r σ2 => Ev (d + 1) 57 42 [l0, l1] (r.toList ++ []) σ2 Q)) := ev_KV (b := s2) (ls := [l0, l1]) (st := [.int s0, .ref s1, .ref s2]) (as := [.ref s1, .int s0]) (rest := []) d57_39 rfl rfl rfl (Nat.le_of_ble_eq_true rfl) (Nat.le_of_ble_eq_true rfl) (Nat.le_of_ble_eq_true rfl) rfl rfl rfl rfl rfl rfl rfl
theorem d57_42 : decode (ab_C 57) 42 = .ok (.aload_n 0, 1) := by decide +kernel
theorem e57_42 {d : Nat} {l1 : Option Value} {x : Nat} {σ : ab_St} {Q : Option Value → ab_St → Prop} : Ev d 57 42 [some (.ref x), l1] [] σ Q = Ev d 57 43 [some (.ref x), l1] [.ref x] σ Q := ev_A1 d57_42 rfl
theorem d57_43 : decode (ab_C 57) 43 = .ok (.getfield 33, 3) := by decide +kernel
theorem e57_43 {d : Nat} {l0 l1 : Option Value} {s0 : Nat} {σ : ab_St} {Q : Option Value → ab_St → Prop} : Ev d 57 43 [l0, l1] [.ref s0] σ Q = (ab_k s0 = 0 ∧ Ev d 57 46 [l0, l1] [.ref (ab_r s0 3)] σ Q) := ev_Hc (c := ab_k s0 = 0) d57_43 rfl rfl rfl rfl rfl rfl rfl rfl
theorem d57_46 : decode (ab_C 57) 46 = .ok (.dup, 1) := by decide +kernel
theorem e57_46 {d : Nat} {l0 l1 : Option Value} {s0 : Nat} {σ : ab_St} {Q : Option Value → ab_St → Prop} : Ev d 57 46 [l0, l1] [.ref s0] σ Q = Ev d 57 47 [l0, l1] [.ref s0, .ref s0] σ Q := ev_A1 d57_46 rfl
theorem d57_47 : decode (ab_C 57) 47 = .ok (.getfield 110, 3) := by decide +kernel
theorem e57_47 {d : Nat} {l0 l1 : Option Value} {s0 : Nat} {s1 : Nat} {σ : ab_St} {Q : Option Value → ab_St → Prop} : Ev d 57 47 [l0, l1] [.ref s0, .ref s1] σ Q = (ab_k s0 = 4 ∧ Ev d 57 50 [l0, l1] [.int (σ.1 s0 1), .ref s1] σ Q) := ev_Hc (c := ab_k s0 = 4) d57_47 rfl rfl rfl rfl rfl rfl rfl rfl
theorem d57_50 : decode (ab_C 57) 50 = .ok (.iconst 1, 1) := by decide +kernel
theorem e57_50 {d : Nat} {l0 l1 : Option Value} {s0 : Int32} {s1 : Nat} {σ : ab_St} {Q : Option Value → ab_St → Prop} : Ev d 57 50 [l0, l1] [.int s0, .ref s1] σ Q = Ev d 57 51 [l0, l1] [.int 1, .int s0, .ref s1] σ Q := ev_A1 d57_50 rfl
theorem d57_51 : decode (ab_C 57) 51 = .ok (.iload_n 1, 1) := by decide +kernel
theorem e57_51 {d : Nat} {l0 : Option Value} {x : Int32} {s0 : Int32} {s1 : Int32} {s2 : Nat} {σ : ab_St} {Q : Option Value → ab_St → Prop} : Ev d 57 51 [l0, some (.int x)] [.int s0, .int s1, .ref s2] σ Q = Ev d 57 52 [l0, some (.int x)] [.int x, .int s0, .int s1, .ref s2] σ Q := ev_A1 d57_51 rfl
theorem d57_52 : decode (ab_C 57) 52 = .ok (.ishl, 1) := by decide +kernel
theorem e57_52 {d : Nat} {l0 l1 : Option Value} {s0 : Int32} {s1 : Int32} {s2 : Int32} {s3 : Nat} {σ : ab_St} {Q : Option Value → ab_St → Prop} : Ev d 57 52 [l0, l1] [.int s0, .int s1, .int s2, .ref s3] σ Q = Ev d 57 53 [l0, l1] [.int (s1 <<< (s0 &&& 31)), .int s2, .ref s3] σ Q := ev_A2 d57_52 rfl rfl
theorem d57_53 : decode (ab_C 57) 53 = .ok (.iconst (-1), 1) := by decide +kernel
theorem e57_53 {d : Nat} {l0 l1 : Option Value} {s0 : Int32} {s1 : Int32} {s2 : Nat} {σ : ab_St} {Q : Option Value → ab_St → Prop} : Ev d 57 53 [l0, l1] [.int s0, .int s1, .ref s2] σ Q = Ev d 57 54 [l0, l1] [.int (-1), .int s0, .int s1, .ref s2] σ Q := ev_A1 d57_53 rfl
theorem d57_54 : decode (ab_C 57) 54 = .ok (.ixor, 1) := by decide +kernel
theorem e57_54 {d : Nat} {l0 l1 : Option Value} {s0 : Int32} {s1 : Int32} {s2 : Int32} {s3 : Nat} {σ : ab_St} {Q : Option Value → ab_St → Prop} : Ev d 57 54 [l0, l1] [.int s0, .int s1, .int s2, .ref s3] σ Q = Ev d 57 55 [l0, l1] [.int (s1 ^^^ s0), .int s2, .ref s3] σ Q := ev_A2 d57_54 rfl rfl
theorem d57_55 : decode (ab_C 57) 55 = .ok (.iand, 1) := by decide +kernel
theorem e57_55 {d : Nat} {l0 l1 : Option Value} {s0 : Int32} {s1 : Int32} {s2 : Nat} {σ : ab_St} {Q : Option Value → ab_St → Prop} : Ev d 57 55 [l0, l1] [.int s0, .int s1, .ref s2] σ Q = Ev d 57 56 [l0, l1] [.int (s1 &&& s0), .ref s2] σ Q := ev_A2 d57_55 rfl rfl
theorem d57_56 : decode (ab_C 57) 56 = .ok (.putfield 110, 3) := by decide +kernel
theorem e57_56 {d : Nat} {l0 l1 : Option Value} {s0 : Int32} {s1 : Nat} {σ : ab_St} {Q : Option Value → ab_St → Prop} : Ev d 57 56 [l0, l1] [.int s0, .ref s1] σ Q = (ab_k s1 = 4 ∧ Ev d 57 59 [l0, l1] [] (ab_wI σ s1 (upd (σ.1 s1) 1 s0)) Q) := ev_Hc (c := ab_k s1 = 4) d57_56 rfl rfl rfl rfl rfl rfl rfl rfl
theorem d57_59 : decode (ab_C 57) 59 = .ok (.aload_n 0, 1) := by decide +kernel
theorem e57_59 {d : Nat} {l1 : Option Value} {x : Nat} {σ : ab_St} {Q : Option Value → ab_St → Prop} : Ev d 57 59 [some (.ref x), l1] [] σ Q = Ev d 57 60 [some (.ref x), l1] [.ref x] σ Q := ev_A1 d57_59 rfl
theorem d57_60 : decode (ab_C 57) 60 = .ok (.getfield 33, 3) := by decide +kernel
theorem e57_60 {d : Nat} {l0 l1 : Option Value} {s0 : Nat} {σ : ab_St} {Q : Option Value → ab_St → Prop} : Ev d 57 60 [l0, l1] [.ref s0] σ Q = (ab_k s0 = 0 ∧ Ev d 57 63 [l0, l1] [.ref (ab_r s0 3)] σ Q) := ev_Hc (c := ab_k s0 = 0) d57_60 rfl rfl rfl rfl rfl rfl rfl rfl
theorem d57_63 : decode (ab_C 57) 63 = .ok (.bipush (-9), 2) := by decide +kernel
theorem e57_63 {d : Nat} {l0 l1 : Option Value} {s0 : Nat} {σ : ab_St} {Q : Option Value → ab_St → Prop} : Ev d 57 63 [l0, l1] [.ref s0] σ Q = Ev d 57 65 [l0, l1] [.int (-9), .ref s0] σ Q := ev_A1 d57_63 rfl
theorem d57_65 : decode (ab_C 57) 65 = .ok (.putfield 130, 3) := by decide +kernel
theorem e57_65 {d : Nat} {l0 l1 : Option Value} {s0 : Int32} {s1 : Nat} {σ : ab_St} {Q : Option Value → ab_St → Prop} : Ev d 57 65 [l0, l1] [.int s0, .ref s1] σ Q = (ab_k s1 = 4 ∧ Ev d 57 68 [l0, l1] [] (ab_wI σ s1 (upd (σ.1 s1) 3 s0)) Q) := ev_Hc (c := ab_k s1 = 4) d57_65 rfl rfl rfl rfl rfl rfl rfl rfl
theorem d57_68 : decode (ab_C 57) 68 = .ok (.aload_n 0, 1) := by decide +kernel
theorem e57_68 {d : Nat} {l1 : Option Value} {x : Nat} {σ : ab_St} {Q : Option Value → ab_St → Prop} : Ev d 57 68 [some (.ref x), l1] [] σ Q = Ev d 57 69 [some (.ref x), l1] [.ref x] σ Q := ev_A1 d57_68 rfl
theorem d57_69 : decode (ab_C 57) 69 = .ok (.getfield 33, 3) := by decide +kernel
theorem e57_69 {d : Nat} {l0 l1 : Option Value} {s0 : Nat} {σ : ab_St} {Q : Option Value → ab_St → Prop} : Ev d 57 69 [l0, l1] [.ref s0] σ Q = (ab_k s0 = 0 ∧ Ev d 57 72 [l0, l1] [.ref (ab_r s0 3)] σ Q) := ev_Hc (c := ab_k s0 = 0) d57_69 rfl rfl rfl rfl rfl rfl rfl rfl
theorem d57_72 : decode (ab_C 57) 72 = .ok (.invokevirtual 176, 3) := by decide +kernel
theorem e57_72 {d : Nat} {l0 l1 : Option Value} {s0 : Nat} {σ : ab_St} {Q : Option Value → ab_St → Prop} : Ev (d + 1) 57 72 [l0, l1] [.ref s0] σ Q = (ab_k s0 = 4 ∧ Ev d 53 0 [some (.ref s0)] [] σ (fun r σ2 => Ev (d + 1) 57 75 [l0, l1] (r.toList ++ []) σ2 Q)) := ev_KV (b := s0) (ls := [l0, l1]) (st := [.ref s0]) (as := []) (rest := []) d57_72 rfl rfl rfl (Nat.le_of_ble_eq_true rfl) (Nat.le_of_ble_eq_true rfl) (Nat.le_of_ble_eq_true rfl) rfl rfl rfl rfl rfl rfl rfl
theorem d57_75 : decode (ab_C 57) 75 = .ok (.ireturn, 1) := by decide +kernel
theorem e57_75 {d : Nat} {l0 l1 : Option Value} {s0 : Int32} {σ : ab_St} {Q : Option Value → ab_St → Prop} : Ev d 57 75 [l0, l1] [.int s0] σ Q = Q (some (.int s0)) σ := ev_E d57_75 rfl rfl rfl rfl rfl rfl rfl
/-! SaidLeast.undo()I -/
theorem d58_0 : decode (ab_C 58) 0 = .ok (.aload_n 0, 1) := by decide +kernel
theorem e58_0 {d : Nat} {x : Nat} {σ : ab_St} {Q : Option Value → ab_St → Prop} : Ev d 58 0 [some (.ref x)] [] σ Q = Ev d 58 1 [some (.ref x)] [.ref x] σ Q := ev_A1 d58_0 rfl
theorem d58_1 : decode (ab_C 58) 1 = .ok (.getfield 43, 3) := by decide +kernel
theorem e58_1 {d : Nat} {l0 : Option Value} {s0 : Nat} {σ : ab_St} {Q : Option Value → ab_St → Prop} : Ev d 58 1 [l0] [.ref s0] σ Q = (ab_k s0 = 0 ∧ Ev d 58 4 [l0] [.ref (ab_r s0 5)] σ Q) := ev_Hc (c := ab_k s0 = 0) d58_1 rfl rfl rfl rfl rfl rfl rfl rfl
theorem d58_4 : decode (ab_C 58) 4 = .ok (.getfield 124, 3) := by decide +kernel
theorem e58_4 {d : Nat} {l0 : Option Value} {s0 : Nat} {σ : ab_St} {Q : Option Value → ab_St → Prop} : Ev d 58 4 [l0] [.ref s0] σ Q = (ab_k s0 = 5 ∧ Ev d 58 7 [l0] [.int (σ.1 s0 6)] σ Q) := ev_Hc (c := ab_k s0 = 5) d58_4 rfl rfl rfl rfl rfl rfl rfl rfl
theorem d58_7 : decode (ab_C 58) 7 = .ok (.ifCond .ne 6, 3) := by decide +kernel
theorem e58_7 {d : Nat} {l0 : Option Value} {s0 : Int32} {σ : ab_St} {Q : Option Value → ab_St → Prop} : Ev d 58 7 [l0] [.int s0] σ Q = if s0 = 0 then Ev d 58 10 [l0] [] σ Q else Ev d 58 13 [l0] [] σ Q := ev_B (c := s0 = 0) d58_7 rfl rfl rfl rfl rfl
theorem d58_10 : decode (ab_C 58) 10 = .ok (.bipush (-3), 2) := by decide +kernel
theorem e58_10 {d : Nat} {l0 : Option Value} {σ : ab_St} {Q : Option Value → ab_St → Prop} : Ev d 58 10 [l0] [] σ Q = Ev d 58 12 [l0] [.int (-3)] σ Q := ev_A1 d58_10 rfl
theorem d58_12 : decode (ab_C 58) 12 = .ok (.ireturn, 1) := by decide +kernel
theorem e58_12 {d : Nat} {l0 : Option Value} {s0 : Int32} {σ : ab_St} {Q : Option Value → ab_St → Prop} : Ev d 58 12 [l0] [.int s0] σ Q = Q (some (.int s0)) σ := ev_E d58_12 rfl rfl rfl rfl rfl rfl rfl
theorem d58_13 : decode (ab_C 58) 13 = .ok (.aload_n 0, 1) := by decide +kernel
theorem e58_13 {d : Nat} {x : Nat} {σ : ab_St} {Q : Option Value → ab_St → Prop} : Ev d 58 13 [some (.ref x)] [] σ Q = Ev d 58 14 [some (.ref x)] [.ref x] σ Q := ev_A1 d58_13 rfl
theorem d58_14 : decode (ab_C 58) 14 = .ok (.getfield 43, 3) := by decide +kernel
theorem e58_14 {d : Nat} {l0 : Option Value} {s0 : Nat} {σ : ab_St} {Q : Option Value → ab_St → Prop} : Ev d 58 14 [l0] [.ref s0] σ Q = (ab_k s0 = 0 ∧ Ev d 58 17 [l0] [.ref (ab_r s0 5)] σ Q) := ev_Hc (c := ab_k s0 = 0) d58_14 rfl rfl rfl rfl rfl rfl rfl rfl
theorem d58_17 : decode (ab_C 58) 17 = .ok (.aload_n 0, 1) := by decide +kernel
theorem e58_17 {d : Nat} {x : Nat} {s0 : Nat} {σ : ab_St} {Q : Option Value → ab_St → Prop} : Ev d 58 17 [some (.ref x)] [.ref s0] σ Q = Ev d 58 18 [some (.ref x)] [.ref x, .ref s0] σ Q := ev_A1 d58_17 rfl
theorem d58_18 : decode (ab_C 58) 18 = .ok (.getfield 33, 3) := by decide +kernel
theorem e58_18 {d : Nat} {l0 : Option Value} {s0 : Nat} {s1 : Nat} {σ : ab_St} {Q : Option Value → ab_St → Prop} : Ev d 58 18 [l0] [.ref s0, .ref s1] σ Q = (ab_k s0 = 0 ∧ Ev d 58 21 [l0] [.ref (ab_r s0 3), .ref s1] σ Q) := ev_Hc (c := ab_k s0 = 0) d58_18 rfl rfl rfl rfl rfl rfl rfl rfl
theorem d58_21 : decode (ab_C 58) 21 = .ok (.invokevirtual 179, 3) := by decide +kernel
theorem e58_21 {d : Nat} {l0 : Option Value} {s0 : Nat} {s1 : Nat} {σ : ab_St} {Q : Option Value → ab_St → Prop} : Ev (d + 1) 58 21 [l0] [.ref s0, .ref s1] σ Q = (ab_k s1 = 5 ∧ Ev d 59 0 [some (.ref s1), some (.ref s0), none] [] σ (fun r σ2 => Ev (d + 1) 58 24 [l0] (r.toList ++ []) σ2 Q)) := ev_KV (b := s1) (ls := [l0]) (st := [.ref s0, .ref s1]) (as := [.ref s0]) (rest := []) d58_21 rfl rfl rfl (Nat.le_of_ble_eq_true rfl) (Nat.le_of_ble_eq_true rfl) (Nat.le_of_ble_eq_true rfl) rfl rfl rfl rfl rfl rfl rfl
theorem d58_24 : decode (ab_C 58) 24 = .ok (.aload_n 0, 1) := by decide +kernel
theorem e58_24 {d : Nat} {x : Nat} {σ : ab_St} {Q : Option Value → ab_St → Prop} : Ev d 58 24 [some (.ref x)] [] σ Q = Ev d 58 25 [some (.ref x)] [.ref x] σ Q := ev_A1 d58_24 rfl
theorem d58_25 : decode (ab_C 58) 25 = .ok (.getfield 43, 3) := by decide +kernel
theorem e58_25 {d : Nat} {l0 : Option Value} {s0 : Nat} {σ : ab_St} {Q : Option Value → ab_St → Prop} : Ev d 58 25 [l0] [.ref s0] σ Q = (ab_k s0 = 0 ∧ Ev d 58 28 [l0] [.ref (ab_r s0 5)] σ Q) := ev_Hc (c := ab_k s0 = 0) d58_25 rfl rfl rfl rfl rfl rfl rfl rfl
theorem d58_28 : decode (ab_C 58) 28 = .ok (.getfield 124, 3) := by decide +kernel
theorem e58_28 {d : Nat} {l0 : Option Value} {s0 : Nat} {σ : ab_St} {Q : Option Value → ab_St → Prop} : Ev d 58 28 [l0] [.ref s0] σ Q = (ab_k s0 = 5 ∧ Ev d 58 31 [l0] [.int (σ.1 s0 6)] σ Q) := ev_Hc (c := ab_k s0 = 5) d58_28 rfl rfl rfl rfl rfl rfl rfl rfl
theorem d58_31 : decode (ab_C 58) 31 = .ok (.ireturn, 1) := by decide +kernel
theorem e58_31 {d : Nat} {l0 : Option Value} {s0 : Int32} {σ : ab_St} {Q : Option Value → ab_St → Prop} : Ev d 58 31 [l0] [.int s0] σ Q = Q (some (.int s0)) σ := ev_E d58_31 rfl rfl rfl rfl rfl rfl rfl
/-! SaidLeast$Acts.takeBack(LSaidLeast$State;)V -/
theorem d59_0 : decode (ab_C 59) 0 = .ok (.aload_n 0, 1) := by decide +kernel
theorem e59_0 {d : Nat} {l1 l2 : Option Value} {x : Nat} {σ : ab_St} {Q : Option Value → ab_St → Prop} : Ev d 59 0 [some (.ref x), l1, l2] [] σ Q = Ev d 59 1 [some (.ref x), l1, l2] [.ref x] σ Q := ev_A1 d59_0 rfl
theorem d59_1 : decode (ab_C 59) 1 = .ok (.dup, 1) := by decide +kernel
theorem e59_1 {d : Nat} {l0 l1 l2 : Option Value} {s0 : Nat} {σ : ab_St} {Q : Option Value → ab_St → Prop} : Ev d 59 1 [l0, l1, l2] [.ref s0] σ Q = Ev d 59 2 [l0, l1, l2] [.ref s0, .ref s0] σ Q := ev_A1 d59_1 rfl
theorem d59_2 : decode (ab_C 59) 2 = .ok (.getfield 27, 3) := by decide +kernel
theorem e59_2 {d : Nat} {l0 l1 l2 : Option Value} {s0 : Nat} {s1 : Nat} {σ : ab_St} {Q : Option Value → ab_St → Prop} : Ev d 59 2 [l0, l1, l2] [.ref s0, .ref s1] σ Q = (ab_k s0 = 5 ∧ Ev d 59 5 [l0, l1, l2] [.int (σ.1 s0 6), .ref s1] σ Q) := ev_Hc (c := ab_k s0 = 5) d59_2 rfl rfl rfl rfl rfl rfl rfl rfl
theorem d59_5 : decode (ab_C 59) 5 = .ok (.iconst 1, 1) := by decide +kernel
theorem e59_5 {d : Nat} {l0 l1 l2 : Option Value} {s0 : Int32} {s1 : Nat} {σ : ab_St} {Q : Option Value → ab_St → Prop} : Ev d 59 5 [l0, l1, l2] [.int s0, .ref s1] σ Q = Ev d 59 6 [l0, l1, l2] [.int 1, .int s0, .ref s1] σ Q := ev_A1 d59_5 rfl
theorem d59_6 : decode (ab_C 59) 6 = .ok (.isub, 1) := by decide +kernel
theorem e59_6 {d : Nat} {l0 l1 l2 : Option Value} {s0 : Int32} {s1 : Int32} {s2 : Nat} {σ : ab_St} {Q : Option Value → ab_St → Prop} : Ev d 59 6 [l0, l1, l2] [.int s0, .int s1, .ref s2] σ Q = Ev d 59 7 [l0, l1, l2] [.int (s1 - s0), .ref s2] σ Q := ev_A2 d59_6 rfl rfl
theorem d59_7 : decode (ab_C 59) 7 = .ok (.putfield 27, 3) := by decide +kernel
theorem e59_7 {d : Nat} {l0 l1 l2 : Option Value} {s0 : Int32} {s1 : Nat} {σ : ab_St} {Q : Option Value → ab_St → Prop} : Ev d 59 7 [l0, l1, l2] [.int s0, .ref s1] σ Q = (ab_k s1 = 5 ∧ Ev d 59 10 [l0, l1, l2] [] (ab_wI σ s1 (upd (σ.1 s1) 6 s0)) Q) := ev_Hc (c := ab_k s1 = 5) d59_7 rfl rfl rfl rfl rfl rfl rfl rfl
theorem d59_10 : decode (ab_C 59) 10 = .ok (.aload_n 0, 1) := by decide +kernel
theorem e59_10 {d : Nat} {l1 l2 : Option Value} {x : Nat} {σ : ab_St} {Q : Option Value → ab_St → Prop} : Ev d 59 10 [some (.ref x), l1, l2] [] σ Q = Ev d 59 11 [some (.ref x), l1, l2] [.ref x] σ Q := ev_A1 d59_10 rfl
theorem d59_11 : decode (ab_C 59) 11 = .ok (.getfield 31, 3) := by decide +kernel
theorem e59_11 {d : Nat} {l0 l1 l2 : Option Value} {s0 : Nat} {σ : ab_St} {Q : Option Value → ab_St → Prop} : Ev d 59 11 [l0, l1, l2] [.ref s0] σ Q = (ab_k s0 = 5 ∧ Ev d 59 14 [l0, l1, l2] [.int (σ.1 s0 5)] σ Q) := ev_Hc (c := ab_k s0 = 5) d59_11 rfl rfl rfl rfl rfl rfl rfl rfl
theorem d59_14 : decode (ab_C 59) 14 = .ok (.aload_n 0, 1) := by decide +kernel
theorem e59_14 {d : Nat} {l1 l2 : Option Value} {x : Nat} {s0 : Int32} {σ : ab_St} {Q : Option Value → ab_St → Prop} : Ev d 59 14 [some (.ref x), l1, l2] [.int s0] σ Q = Ev d 59 15 [some (.ref x), l1, l2] [.ref x, .int s0] σ Q := ev_A1 d59_14 rfl
theorem d59_15 : decode (ab_C 59) 15 = .ok (.getfield 27, 3) := by decide +kernel
theorem e59_15 {d : Nat} {l0 l1 l2 : Option Value} {s0 : Nat} {s1 : Int32} {σ : ab_St} {Q : Option Value → ab_St → Prop} : Ev d 59 15 [l0, l1, l2] [.ref s0, .int s1] σ Q = (ab_k s0 = 5 ∧ Ev d 59 18 [l0, l1, l2] [.int (σ.1 s0 6), .int s1] σ Q) := ev_Hc (c := ab_k s0 = 5) d59_15 rfl rfl rfl rfl rfl rfl rfl rfl
theorem d59_18 : decode (ab_C 59) 18 = .ok (.iadd, 1) := by decide +kernel
theorem e59_18 {d : Nat} {l0 l1 l2 : Option Value} {s0 : Int32} {s1 : Int32} {σ : ab_St} {Q : Option Value → ab_St → Prop} : Ev d 59 18 [l0, l1, l2] [.int s0, .int s1] σ Q = Ev d 59 19 [l0, l1, l2] [.int (s1 + s0)] σ Q := ev_A2 d59_18 rfl rfl
theorem d59_19 : decode (ab_C 59) 19 = .ok (.bipush 12, 2) := by decide +kernel
theorem e59_19 {d : Nat} {l0 l1 l2 : Option Value} {s0 : Int32} {σ : ab_St} {Q : Option Value → ab_St → Prop} : Ev d 59 19 [l0, l1, l2] [.int s0] σ Q = Ev d 59 21 [l0, l1, l2] [.int 12, .int s0] σ Q := ev_A1 d59_19 rfl
theorem d59_21 : decode (ab_C 59) 21 = .ok (.irem, 1) := by decide +kernel
theorem e59_21 {d : Nat} {l0 l1 l2 : Option Value} {s0 : Int32} {s1 : Int32} {σ : ab_St} {Q : Option Value → ab_St → Prop} : Ev d 59 21 [l0, l1, l2] [.int s0, .int s1] σ Q = (¬ s0 = 0 ∧ Ev d 59 22 [l0, l1, l2] [.int (s1 - s1 / s0 * s0)] σ Q) := ev_D (c := s0 = 0) d59_21 rfl rfl rfl rfl rfl rfl rfl rfl
theorem d59_22 : decode (ab_C 59) 22 = .ok (.istore_n 2, 1) := by decide +kernel
theorem e59_22 {d : Nat} {l0 l1 l2 : Option Value} {s0 : Int32} {σ : ab_St} {Q : Option Value → ab_St → Prop} : Ev d 59 22 [l0, l1, l2] [.int s0] σ Q = Ev d 59 23 [l0, l1, some (.int s0)] [] σ Q := ev_S d59_22 rfl rfl rfl rfl
theorem d59_23 : decode (ab_C 59) 23 = .ok (.aload_n 1, 1) := by decide +kernel
theorem e59_23 {d : Nat} {l0 l2 : Option Value} {x : Nat} {σ : ab_St} {Q : Option Value → ab_St → Prop} : Ev d 59 23 [l0, some (.ref x), l2] [] σ Q = Ev d 59 24 [l0, some (.ref x), l2] [.ref x] σ Q := ev_A1 d59_23 rfl
theorem d59_24 : decode (ab_C 59) 24 = .ok (.getfield 34, 3) := by decide +kernel
theorem e59_24 {d : Nat} {l0 l1 l2 : Option Value} {s0 : Nat} {σ : ab_St} {Q : Option Value → ab_St → Prop} : Ev d 59 24 [l0, l1, l2] [.ref s0] σ Q = (ab_k s0 = 4 ∧ Ev d 59 27 [l0, l1, l2] [.ref (ab_r s0 0)] σ Q) := ev_Hc (c := ab_k s0 = 4) d59_24 rfl rfl rfl rfl rfl rfl rfl rfl
theorem d59_27 : decode (ab_C 59) 27 = .ok (.aload_n 0, 1) := by decide +kernel
theorem e59_27 {d : Nat} {l1 l2 : Option Value} {x : Nat} {s0 : Nat} {σ : ab_St} {Q : Option Value → ab_St → Prop} : Ev d 59 27 [some (.ref x), l1, l2] [.ref s0] σ Q = Ev d 59 28 [some (.ref x), l1, l2] [.ref x, .ref s0] σ Q := ev_A1 d59_27 rfl
theorem d59_28 : decode (ab_C 59) 28 = .ok (.getfield 9, 3) := by decide +kernel
theorem e59_28 {d : Nat} {l0 l1 l2 : Option Value} {s0 : Nat} {s1 : Nat} {σ : ab_St} {Q : Option Value → ab_St → Prop} : Ev d 59 28 [l0, l1, l2] [.ref s0, .ref s1] σ Q = (ab_k s0 = 5 ∧ Ev d 59 31 [l0, l1, l2] [.ref (ab_r s0 0), .ref s1] σ Q) := ev_Hc (c := ab_k s0 = 5) d59_28 rfl rfl rfl rfl rfl rfl rfl rfl
theorem d59_31 : decode (ab_C 59) 31 = .ok (.iload_n 2, 1) := by decide +kernel
theorem e59_31 {d : Nat} {l0 l1 : Option Value} {x : Int32} {s0 : Nat} {s1 : Nat} {σ : ab_St} {Q : Option Value → ab_St → Prop} : Ev d 59 31 [l0, l1, some (.int x)] [.ref s0, .ref s1] σ Q = Ev d 59 32 [l0, l1, some (.int x)] [.int x, .ref s0, .ref s1] σ Q := ev_A1 d59_31 rfl
theorem d59_32 : decode (ab_C 59) 32 = .ok (.iaload, 1) := by decide +kernel
theorem e59_32 {d : Nat} {l0 l1 l2 : Option Value} {s0 : Int32} {s1 : Nat} {s2 : Nat} {σ : ab_St} {Q : Option Value → ab_St → Prop} : Ev d 59 32 [l0, l1, l2] [.int s0, .ref s1, .ref s2] σ Q = ((ab_k s1 = 100 ∧ ab_in s0 (ab_n s1)) ∧ Ev d 59 33 [l0, l1, l2] [.int (σ.1 s1 s0.toNatClampNeg), .ref s2] σ Q) := ev_Hc (c := ab_k s1 = 100 ∧ ab_in s0 (ab_n s1)) d59_32 rfl rfl rfl rfl rfl rfl rfl rfl
theorem d59_33 : decode (ab_C 59) 33 = .ok (.aload_n 0, 1) := by decide +kernel
theorem e59_33 {d : Nat} {l1 l2 : Option Value} {x : Nat} {s0 : Int32} {s1 : Nat} {σ : ab_St} {Q : Option Value → ab_St → Prop} : Ev d 59 33 [some (.ref x), l1, l2] [.int s0, .ref s1] σ Q = Ev d 59 34 [some (.ref x), l1, l2] [.ref x, .int s0, .ref s1] σ Q := ev_A1 d59_33 rfl
theorem d59_34 : decode (ab_C 59) 34 = .ok (.getfield 15, 3) := by decide +kernel
theorem e59_34 {d : Nat} {l0 l1 l2 : Option Value} {s0 : Nat} {s1 : Int32} {s2 : Nat} {σ : ab_St} {Q : Option Value → ab_St → Prop} : Ev d 59 34 [l0, l1, l2] [.ref s0, .int s1, .ref s2] σ Q = (ab_k s0 = 5 ∧ Ev d 59 37 [l0, l1, l2] [.ref (ab_r s0 1), .int s1, .ref s2] σ Q) := ev_Hc (c := ab_k s0 = 5) d59_34 rfl rfl rfl rfl rfl rfl rfl rfl
theorem d59_37 : decode (ab_C 59) 37 = .ok (.iload_n 2, 1) := by decide +kernel
theorem e59_37 {d : Nat} {l0 l1 : Option Value} {x : Int32} {s0 : Nat} {s1 : Int32} {s2 : Nat} {σ : ab_St} {Q : Option Value → ab_St → Prop} : Ev d 59 37 [l0, l1, some (.int x)] [.ref s0, .int s1, .ref s2] σ Q = Ev d 59 38 [l0, l1, some (.int x)] [.int x, .ref s0, .int s1, .ref s2] σ Q := ev_A1 d59_37 rfl
theorem d59_38 : decode (ab_C 59) 38 = .ok (.iaload, 1) := by decide +kernel
theorem e59_38 {d : Nat} {l0 l1 l2 : Option Value} {s0 : Int32} {s1 : Nat} {s2 : Int32} {s3 : Nat} {σ : ab_St} {Q : Option Value → ab_St → Prop} : Ev d 59 38 [l0, l1, l2] [.int s0, .ref s1, .int s2, .ref s3] σ Q = ((ab_k s1 = 100 ∧ ab_in s0 (ab_n s1)) ∧ Ev d 59 39 [l0, l1, l2] [.int (σ.1 s1 s0.toNatClampNeg), .int s2, .ref s3] σ Q) := ev_Hc (c := ab_k s1 = 100 ∧ ab_in s0 (ab_n s1)) d59_38 rfl rfl rfl rfl rfl rfl rfl rfl
theorem d59_39 : decode (ab_C 59) 39 = .ok (.iastore, 1) := by decide +kernel
theorem e59_39 {d : Nat} {l0 l1 l2 : Option Value} {s0 : Int32} {s1 : Int32} {s2 : Nat} {σ : ab_St} {Q : Option Value → ab_St → Prop} : Ev d 59 39 [l0, l1, l2] [.int s0, .int s1, .ref s2] σ Q = ((ab_k s2 = 100 ∧ ab_in s1 (ab_n s2)) ∧ Ev d 59 40 [l0, l1, l2] [] (ab_wI σ s2 (upd (σ.1 s2) s1.toNatClampNeg s0)) Q) := ev_Hc (c := ab_k s2 = 100 ∧ ab_in s1 (ab_n s2)) d59_39 rfl rfl rfl rfl rfl rfl rfl rfl
theorem d59_40 : decode (ab_C 59) 40 = .ok (.aload_n 1, 1) := by decide +kernel
theorem e59_40 {d : Nat} {l0 l2 : Option Value} {x : Nat} {σ : ab_St} {Q : Option Value → ab_St → Prop} : Ev d 59 40 [l0, some (.ref x), l2] [] σ Q = Ev d 59 41 [l0, some (.ref x), l2] [.ref x] σ Q := ev_A1 d59_40 rfl
theorem d59_41 : decode (ab_C 59) 41 = .ok (.aload_n 0, 1) := by decide +kernel
theorem e59_41 {d : Nat} {l1 l2 : Option Value} {x : Nat} {s0 : Nat} {σ : ab_St} {Q : Option Value → ab_St → Prop} : Ev d 59 41 [some (.ref x), l1, l2] [.ref s0] σ Q = Ev d 59 42 [some (.ref x), l1, l2] [.ref x, .ref s0] σ Q := ev_A1 d59_41 rfl
theorem d59_42 : decode (ab_C 59) 42 = .ok (.getfield 18, 3) := by decide +kernel
theorem e59_42 {d : Nat} {l0 l1 l2 : Option Value} {s0 : Nat} {s1 : Nat} {σ : ab_St} {Q : Option Value → ab_St → Prop} : Ev d 59 42 [l0, l1, l2] [.ref s0, .ref s1] σ Q = (ab_k s0 = 5 ∧ Ev d 59 45 [l0, l1, l2] [.ref (ab_r s0 2), .ref s1] σ Q) := ev_Hc (c := ab_k s0 = 5) d59_42 rfl rfl rfl rfl rfl rfl rfl rfl
theorem d59_45 : decode (ab_C 59) 45 = .ok (.iload_n 2, 1) := by decide +kernel
theorem e59_45 {d : Nat} {l0 l1 : Option Value} {x : Int32} {s0 : Nat} {s1 : Nat} {σ : ab_St} {Q : Option Value → ab_St → Prop} : Ev d 59 45 [l0, l1, some (.int x)] [.ref s0, .ref s1] σ Q = Ev d 59 46 [l0, l1, some (.int x)] [.int x, .ref s0, .ref s1] σ Q := ev_A1 d59_45 rfl
theorem d59_46 : decode (ab_C 59) 46 = .ok (.iaload, 1) := by decide +kernel
theorem e59_46 {d : Nat} {l0 l1 l2 : Option Value} {s0 : Int32} {s1 : Nat} {s2 : Nat} {σ : ab_St} {Q : Option Value → ab_St → Prop} : Ev d 59 46 [l0, l1, l2] [.int s0, .ref s1, .ref s2] σ Q = ((ab_k s1 = 100 ∧ ab_in s0 (ab_n s1)) ∧ Ev d 59 47 [l0, l1, l2] [.int (σ.1 s1 s0.toNatClampNeg), .ref s2] σ Q) := ev_Hc (c := ab_k s1 = 100 ∧ ab_in s0 (ab_n s1)) d59_46 rfl rfl rfl rfl rfl rfl rfl rfl
theorem d59_47 : decode (ab_C 59) 47 = .ok (.putfield 37, 3) := by decide +kernel
theorem e59_47 {d : Nat} {l0 l1 l2 : Option Value} {s0 : Int32} {s1 : Nat} {σ : ab_St} {Q : Option Value → ab_St → Prop} : Ev d 59 47 [l0, l1, l2] [.int s0, .ref s1] σ Q = (ab_k s1 = 4 ∧ Ev d 59 50 [l0, l1, l2] [] (ab_wI σ s1 (upd (σ.1 s1) 1 s0)) Q) := ev_Hc (c := ab_k s1 = 4) d59_47 rfl rfl rfl rfl rfl rfl rfl rfl
theorem d59_50 : decode (ab_C 59) 50 = .ok (.aload_n 1, 1) := by decide +kernel
theorem e59_50 {d : Nat} {l0 l2 : Option Value} {x : Nat} {σ : ab_St} {Q : Option Value → ab_St → Prop} : Ev d 59 50 [l0, some (.ref x), l2] [] σ Q = Ev d 59 51 [l0, some (.ref x), l2] [.ref x] σ Q := ev_A1 d59_50 rfl
theorem d59_51 : decode (ab_C 59) 51 = .ok (.aload_n 0, 1) := by decide +kernel
theorem e59_51 {d : Nat} {l1 l2 : Option Value} {x : Nat} {s0 : Nat} {σ : ab_St} {Q : Option Value → ab_St → Prop} : Ev d 59 51 [some (.ref x), l1, l2] [.ref s0] σ Q = Ev d 59 52 [some (.ref x), l1, l2] [.ref x, .ref s0] σ Q := ev_A1 d59_51 rfl
theorem d59_52 : decode (ab_C 59) 52 = .ok (.getfield 21, 3) := by decide +kernel
theorem e59_52 {d : Nat} {l0 l1 l2 : Option Value} {s0 : Nat} {s1 : Nat} {σ : ab_St} {Q : Option Value → ab_St → Prop} : Ev d 59 52 [l0, l1, l2] [.ref s0, .ref s1] σ Q = (ab_k s0 = 5 ∧ Ev d 59 55 [l0, l1, l2] [.ref (ab_r s0 3), .ref s1] σ Q) := ev_Hc (c := ab_k s0 = 5) d59_52 rfl rfl rfl rfl rfl rfl rfl rfl
theorem d59_55 : decode (ab_C 59) 55 = .ok (.iload_n 2, 1) := by decide +kernel
theorem e59_55 {d : Nat} {l0 l1 : Option Value} {x : Int32} {s0 : Nat} {s1 : Nat} {σ : ab_St} {Q : Option Value → ab_St → Prop} : Ev d 59 55 [l0, l1, some (.int x)] [.ref s0, .ref s1] σ Q = Ev d 59 56 [l0, l1, some (.int x)] [.int x, .ref s0, .ref s1] σ Q := ev_A1 d59_55 rfl
theorem d59_56 : decode (ab_C 59) 56 = .ok (.iaload, 1) := by decide +kernel
theorem e59_56 {d : Nat} {l0 l1 l2 : Option Value} {s0 : Int32} {s1 : Nat} {s2 : Nat} {σ : ab_St} {Q : Option Value → ab_St → Prop} : Ev d 59 56 [l0, l1, l2] [.int s0, .ref s1, .ref s2] σ Q = ((ab_k s1 = 100 ∧ ab_in s0 (ab_n s1)) ∧ Ev d 59 57 [l0, l1, l2] [.int (σ.1 s1 s0.toNatClampNeg), .ref s2] σ Q) := ev_Hc (c := ab_k s1 = 100 ∧ ab_in s0 (ab_n s1)) d59_56 rfl rfl rfl rfl rfl rfl rfl rfl
theorem d59_57 : decode (ab_C 59) 57 = .ok (.putfield 39, 3) := by decide +kernel
theorem e59_57 {d : Nat} {l0 l1 l2 : Option Value} {s0 : Int32} {s1 : Nat} {σ : ab_St} {Q : Option Value → ab_St → Prop} : Ev d 59 57 [l0, l1, l2] [.int s0, .ref s1] σ Q = (ab_k s1 = 4 ∧ Ev d 59 60 [l0, l1, l2] [] (ab_wI σ s1 (upd (σ.1 s1) 2 s0)) Q) := ev_Hc (c := ab_k s1 = 4) d59_57 rfl rfl rfl rfl rfl rfl rfl rfl
theorem d59_60 : decode (ab_C 59) 60 = .ok (.aload_n 1, 1) := by decide +kernel
theorem e59_60 {d : Nat} {l0 l2 : Option Value} {x : Nat} {σ : ab_St} {Q : Option Value → ab_St → Prop} : Ev d 59 60 [l0, some (.ref x), l2] [] σ Q = Ev d 59 61 [l0, some (.ref x), l2] [.ref x] σ Q := ev_A1 d59_60 rfl
theorem d59_61 : decode (ab_C 59) 61 = .ok (.aload_n 0, 1) := by decide +kernel
theorem e59_61 {d : Nat} {l1 l2 : Option Value} {x : Nat} {s0 : Nat} {σ : ab_St} {Q : Option Value → ab_St → Prop} : Ev d 59 61 [some (.ref x), l1, l2] [.ref s0] σ Q = Ev d 59 62 [some (.ref x), l1, l2] [.ref x, .ref s0] σ Q := ev_A1 d59_61 rfl
theorem d59_62 : decode (ab_C 59) 62 = .ok (.getfield 24, 3) := by decide +kernel
theorem e59_62 {d : Nat} {l0 l1 l2 : Option Value} {s0 : Nat} {s1 : Nat} {σ : ab_St} {Q : Option Value → ab_St → Prop} : Ev d 59 62 [l0, l1, l2] [.ref s0, .ref s1] σ Q = (ab_k s0 = 5 ∧ Ev d 59 65 [l0, l1, l2] [.ref (ab_r s0 4), .ref s1] σ Q) := ev_Hc (c := ab_k s0 = 5) d59_62 rfl rfl rfl rfl rfl rfl rfl rfl
theorem d59_65 : decode (ab_C 59) 65 = .ok (.iload_n 2, 1) := by decide +kernel
theorem e59_65 {d : Nat} {l0 l1 : Option Value} {x : Int32} {s0 : Nat} {s1 : Nat} {σ : ab_St} {Q : Option Value → ab_St → Prop} : Ev d 59 65 [l0, l1, some (.int x)] [.ref s0, .ref s1] σ Q = Ev d 59 66 [l0, l1, some (.int x)] [.int x, .ref s0, .ref s1] σ Q := ev_A1 d59_65 rfl
theorem d59_66 : decode (ab_C 59) 66 = .ok (.iaload, 1) := by decide +kernel
theorem e59_66 {d : Nat} {l0 l1 l2 : Option Value} {s0 : Int32} {s1 : Nat} {s2 : Nat} {σ : ab_St} {Q : Option Value → ab_St → Prop} : Ev d 59 66 [l0, l1, l2] [.int s0, .ref s1, .ref s2] σ Q = ((ab_k s1 = 100 ∧ ab_in s0 (ab_n s1)) ∧ Ev d 59 67 [l0, l1, l2] [.int (σ.1 s1 s0.toNatClampNeg), .ref s2] σ Q) := ev_Hc (c := ab_k s1 = 100 ∧ ab_in s0 (ab_n s1)) d59_66 rfl rfl rfl rfl rfl rfl rfl rfl
theorem d59_67 : decode (ab_C 59) 67 = .ok (.putfield 41, 3) := by decide +kernel
theorem e59_67 {d : Nat} {l0 l1 l2 : Option Value} {s0 : Int32} {s1 : Nat} {σ : ab_St} {Q : Option Value → ab_St → Prop} : Ev d 59 67 [l0, l1, l2] [.int s0, .ref s1] σ Q = (ab_k s1 = 4 ∧ Ev d 59 70 [l0, l1, l2] [] (ab_wI σ s1 (upd (σ.1 s1) 3 s0)) Q) := ev_Hc (c := ab_k s1 = 4) d59_67 rfl rfl rfl rfl rfl rfl rfl rfl
theorem d59_70 : decode (ab_C 59) 70 = .ok (.return_, 1) := by decide +kernel
theorem e59_70 {d : Nat} {l0 l1 l2 : Option Value} {σ : ab_St} {Q : Option Value → ab_St → Prop} : Ev d 59 70 [l0, l1, l2] [] σ Q = Q none σ := ev_E d59_70 rfl rfl rfl rfl rfl rfl rfl
/-! SaidLeast.judge(II)I -/
theorem d60_0 : decode (ab_C 60) 0 = .ok (.iload_n 1, 1) := by decide +kernel
theorem e60_0 {d : Nat} {l0 l2 l3 l4 : Option Value} {x : Int32} {σ : ab_St} {Q : Option Value → ab_St → Prop} : Ev d 60 0 [l0, some (.int x), l2, l3, l4] [] σ Q = Ev d 60 1 [l0, some (.int x), l2, l3, l4] [.int x] σ Q := ev_A1 d60_0 rfl
theorem d60_1 : decode (ab_C 60) 1 = .ok (.iconst 1, 1) := by decide +kernel
theorem e60_1 {d : Nat} {l0 l1 l2 l3 l4 : Option Value} {s0 : Int32} {σ : ab_St} {Q : Option Value → ab_St → Prop} : Ev d 60 1 [l0, l1, l2, l3, l4] [.int s0] σ Q = Ev d 60 2 [l0, l1, l2, l3, l4] [.int 1, .int s0] σ Q := ev_A1 d60_1 rfl
theorem d60_2 : decode (ab_C 60) 2 = .ok (.if_icmp .lt 22, 3) := by decide +kernel
theorem e60_2 {d : Nat} {l0 l1 l2 l3 l4 : Option Value} {s0 : Int32} {s1 : Int32} {σ : ab_St} {Q : Option Value → ab_St → Prop} : Ev d 60 2 [l0, l1, l2, l3, l4] [.int s0, .int s1] σ Q = if s1 < s0 then Ev d 60 24 [l0, l1, l2, l3, l4] [] σ Q else Ev d 60 5 [l0, l1, l2, l3, l4] [] σ Q := ev_B (c := s1 < s0) d60_2 rfl rfl rfl rfl rfl
theorem d60_5 : decode (ab_C 60) 5 = .ok (.iload_n 1, 1) := by decide +kernel
theorem e60_5 {d : Nat} {l0 l2 l3 l4 : Option Value} {x : Int32} {σ : ab_St} {Q : Option Value → ab_St → Prop} : Ev d 60 5 [l0, some (.int x), l2, l3, l4] [] σ Q = Ev d 60 6 [l0, some (.int x), l2, l3, l4] [.int x] σ Q := ev_A1 d60_5 rfl
theorem d60_6 : decode (ab_C 60) 6 = .ok (.bipush 8, 2) := by decide +kernel
theorem e60_6 {d : Nat} {l0 l1 l2 l3 l4 : Option Value} {s0 : Int32} {σ : ab_St} {Q : Option Value → ab_St → Prop} : Ev d 60 6 [l0, l1, l2, l3, l4] [.int s0] σ Q = Ev d 60 8 [l0, l1, l2, l3, l4] [.int 8, .int s0] σ Q := ev_A1 d60_6 rfl
theorem d60_8 : decode (ab_C 60) 8 = .ok (.if_icmp .gt 16, 3) := by decide +kernel
theorem e60_8 {d : Nat} {l0 l1 l2 l3 l4 : Option Value} {s0 : Int32} {s1 : Int32} {σ : ab_St} {Q : Option Value → ab_St → Prop} : Ev d 60 8 [l0, l1, l2, l3, l4] [.int s0, .int s1] σ Q = if s0 < s1 then Ev d 60 24 [l0, l1, l2, l3, l4] [] σ Q else Ev d 60 11 [l0, l1, l2, l3, l4] [] σ Q := ev_B (c := s0 < s1) d60_8 rfl rfl rfl rfl rfl
theorem d60_11 : decode (ab_C 60) 11 = .ok (.iload_n 2, 1) := by decide +kernel
theorem e60_11 {d : Nat} {l0 l1 l3 l4 : Option Value} {x : Int32} {σ : ab_St} {Q : Option Value → ab_St → Prop} : Ev d 60 11 [l0, l1, some (.int x), l3, l4] [] σ Q = Ev d 60 12 [l0, l1, some (.int x), l3, l4] [.int x] σ Q := ev_A1 d60_11 rfl
theorem d60_12 : decode (ab_C 60) 12 = .ok (.ifCond .lt 12, 3) := by decide +kernel
theorem e60_12 {d : Nat} {l0 l1 l2 l3 l4 : Option Value} {s0 : Int32} {σ : ab_St} {Q : Option Value → ab_St → Prop} : Ev d 60 12 [l0, l1, l2, l3, l4] [.int s0] σ Q = if s0 < 0 then Ev d 60 24 [l0, l1, l2, l3, l4] [] σ Q else Ev d 60 15 [l0, l1, l2, l3, l4] [] σ Q := ev_B (c := s0 < 0) d60_12 rfl rfl rfl rfl rfl
theorem d60_15 : decode (ab_C 60) 15 = .ok (.iload_n 2, 1) := by decide +kernel
theorem e60_15 {d : Nat} {l0 l1 l3 l4 : Option Value} {x : Int32} {σ : ab_St} {Q : Option Value → ab_St → Prop} : Ev d 60 15 [l0, l1, some (.int x), l3, l4] [] σ Q = Ev d 60 16 [l0, l1, some (.int x), l3, l4] [.int x] σ Q := ev_A1 d60_15 rfl
theorem d60_16 : decode (ab_C 60) 16 = .ok (.getstatic 182, 3) := by decide +kernel
theorem e60_16 {d : Nat} {l0 l1 l2 l3 l4 : Option Value} {s0 : Int32} {σ : ab_St} {Q : Option Value → ab_St → Prop} : Ev d 60 16 [l0, l1, l2, l3, l4] [.int s0] σ Q = Ev d 60 19 [l0, l1, l2, l3, l4] [.null, .int s0] σ Q := ev_H d60_16 rfl rfl rfl rfl rfl rfl
theorem d60_19 : decode (ab_C 60) 19 = .ok (.iload_n 1, 1) := by decide +kernel
theorem e60_19 {d : Nat} {l0 l2 l3 l4 : Option Value} {x : Int32} {s1 : Int32} {σ : ab_St} {Q : Option Value → ab_St → Prop} : Ev d 60 19 [l0, some (.int x), l2, l3, l4] [.null, .int s1] σ Q = Ev d 60 20 [l0, some (.int x), l2, l3, l4] [.int x, .null, .int s1] σ Q := ev_A1 d60_19 rfl
theorem d60_20 : decode (ab_C 60) 20 = .ok (.iaload, 1) := by decide +kernel
theorem e60_20 {d : Nat} {l0 l1 l2 l3 l4 : Option Value} {s0 : Int32} {s2 : Int32} {σ : ab_St} {Q : Option Value → ab_St → Prop} : Ev d 60 20 [l0, l1, l2, l3, l4] [.int s0, .null, .int s2] σ Q = (ab_in s0 9 ∧ Ev d 60 21 [l0, l1, l2, l3, l4] [.int (ab_pw s0.toNatClampNeg), .int s2] σ Q) := ev_Hc (c := ab_in s0 9) d60_20 rfl rfl rfl rfl rfl rfl rfl rfl
theorem d60_21 : decode (ab_C 60) 21 = .ok (.if_icmp .lt 6, 3) := by decide +kernel
theorem e60_21 {d : Nat} {l0 l1 l2 l3 l4 : Option Value} {s0 : Int32} {s1 : Int32} {σ : ab_St} {Q : Option Value → ab_St → Prop} : Ev d 60 21 [l0, l1, l2, l3, l4] [.int s0, .int s1] σ Q = if s1 < s0 then Ev d 60 27 [l0, l1, l2, l3, l4] [] σ Q else Ev d 60 24 [l0, l1, l2, l3, l4] [] σ Q := ev_B (c := s1 < s0) d60_21 rfl rfl rfl rfl rfl
theorem d60_24 : decode (ab_C 60) 24 = .ok (.bipush (-2), 2) := by decide +kernel
theorem e60_24 {d : Nat} {l0 l1 l2 l3 l4 : Option Value} {σ : ab_St} {Q : Option Value → ab_St → Prop} : Ev d 60 24 [l0, l1, l2, l3, l4] [] σ Q = Ev d 60 26 [l0, l1, l2, l3, l4] [.int (-2)] σ Q := ev_A1 d60_24 rfl
theorem d60_26 : decode (ab_C 60) 26 = .ok (.ireturn, 1) := by decide +kernel
theorem e60_26 {d : Nat} {l0 l1 l2 l3 l4 : Option Value} {s0 : Int32} {σ : ab_St} {Q : Option Value → ab_St → Prop} : Ev d 60 26 [l0, l1, l2, l3, l4] [.int s0] σ Q = Q (some (.int s0)) σ := ev_E d60_26 rfl rfl rfl rfl rfl rfl rfl
theorem d60_27 : decode (ab_C 60) 27 = .ok (.aload_n 0, 1) := by decide +kernel
theorem e60_27 {d : Nat} {l1 l2 l3 l4 : Option Value} {x : Nat} {σ : ab_St} {Q : Option Value → ab_St → Prop} : Ev d 60 27 [some (.ref x), l1, l2, l3, l4] [] σ Q = Ev d 60 28 [some (.ref x), l1, l2, l3, l4] [.ref x] σ Q := ev_A1 d60_27 rfl
theorem d60_28 : decode (ab_C 60) 28 = .ok (.getfield 37, 3) := by decide +kernel
theorem e60_28 {d : Nat} {l0 l1 l2 l3 l4 : Option Value} {s0 : Nat} {σ : ab_St} {Q : Option Value → ab_St → Prop} : Ev d 60 28 [l0, l1, l2, l3, l4] [.ref s0] σ Q = (ab_k s0 = 0 ∧ Ev d 60 31 [l0, l1, l2, l3, l4] [.ref (ab_r s0 4)] σ Q) := ev_Hc (c := ab_k s0 = 0) d60_28 rfl rfl rfl rfl rfl rfl rfl rfl
theorem d60_31 : decode (ab_C 60) 31 = .ok (.aload_n 0, 1) := by decide +kernel
theorem e60_31 {d : Nat} {l1 l2 l3 l4 : Option Value} {x : Nat} {s0 : Nat} {σ : ab_St} {Q : Option Value → ab_St → Prop} : Ev d 60 31 [some (.ref x), l1, l2, l3, l4] [.ref s0] σ Q = Ev d 60 32 [some (.ref x), l1, l2, l3, l4] [.ref x, .ref s0] σ Q := ev_A1 d60_31 rfl
theorem d60_32 : decode (ab_C 60) 32 = .ok (.getfield 33, 3) := by decide +kernel
theorem e60_32 {d : Nat} {l0 l1 l2 l3 l4 : Option Value} {s0 : Nat} {s1 : Nat} {σ : ab_St} {Q : Option Value → ab_St → Prop} : Ev d 60 32 [l0, l1, l2, l3, l4] [.ref s0, .ref s1] σ Q = (ab_k s0 = 0 ∧ Ev d 60 35 [l0, l1, l2, l3, l4] [.ref (ab_r s0 3), .ref s1] σ Q) := ev_Hc (c := ab_k s0 = 0) d60_32 rfl rfl rfl rfl rfl rfl rfl rfl
theorem d60_35 : decode (ab_C 60) 35 = .ok (.invokevirtual 92, 3) := by decide +kernel
theorem e60_35 {d : Nat} {l0 l1 l2 l3 l4 : Option Value} {s0 : Nat} {s1 : Nat} {σ : ab_St} {Q : Option Value → ab_St → Prop} : Ev (d + 1) 60 35 [l0, l1, l2, l3, l4] [.ref s0, .ref s1] σ Q = (ab_k s1 = 4 ∧ Ev d 35 0 [some (.ref s1), some (.ref s0)] [] σ (fun r σ2 => Ev (d + 1) 60 38 [l0, l1, l2, l3, l4] (r.toList ++ []) σ2 Q)) := ev_KV (b := s1) (ls := [l0, l1, l2, l3, l4]) (st := [.ref s0, .ref s1]) (as := [.ref s0]) (rest := []) d60_35 rfl rfl rfl (Nat.le_of_ble_eq_true rfl) (Nat.le_of_ble_eq_true rfl) (Nat.le_of_ble_eq_true rfl) rfl rfl rfl rfl rfl rfl rfl
theorem d60_38 : decode (ab_C 60) 38 = .ok (.iconst 0, 1) := by decide +kernel
theorem e60_38 {d : Nat} {l0 l1 l2 l3 l4 : Option Value} {σ : ab_St} {Q : Option Value → ab_St → Prop} : Ev d 60 38 [l0, l1, l2, l3, l4] [] σ Q = Ev d 60 39 [l0, l1, l2, l3, l4] [.int 0] σ Q := ev_A1 d60_38 rfl
theorem d60_39 : decode (ab_C 60) 39 = .ok (.istore_n 3, 1) := by decide +kernel
theorem e60_39 {d : Nat} {l0 l1 l2 l3 l4 : Option Value} {s0 : Int32} {σ : ab_St} {Q : Option Value → ab_St → Prop} : Ev d 60 39 [l0, l1, l2, l3, l4] [.int s0] σ Q = Ev d 60 40 [l0, l1, l2, some (.int s0), l4] [] σ Q := ev_S d60_39 rfl rfl rfl rfl
theorem d60_40 : decode (ab_C 60) 40 = .ok (.iload_n 3, 1) := by decide +kernel
theorem e60_40 {d : Nat} {l0 l1 l2 l4 : Option Value} {x : Int32} {σ : ab_St} {Q : Option Value → ab_St → Prop} : Ev d 60 40 [l0, l1, l2, some (.int x), l4] [] σ Q = Ev d 60 41 [l0, l1, l2, some (.int x), l4] [.int x] σ Q := ev_A1 d60_40 rfl
theorem d60_41 : decode (ab_C 60) 41 = .ok (.iload_n 1, 1) := by decide +kernel
theorem e60_41 {d : Nat} {l0 l2 l3 l4 : Option Value} {x : Int32} {s0 : Int32} {σ : ab_St} {Q : Option Value → ab_St → Prop} : Ev d 60 41 [l0, some (.int x), l2, l3, l4] [.int s0] σ Q = Ev d 60 42 [l0, some (.int x), l2, l3, l4] [.int x, .int s0] σ Q := ev_A1 d60_41 rfl
theorem d60_42 : decode (ab_C 60) 42 = .ok (.if_icmp .ge 68, 3) := by decide +kernel
theorem e60_42 {d : Nat} {l0 l1 l2 l3 l4 : Option Value} {s0 : Int32} {s1 : Int32} {σ : ab_St} {Q : Option Value → ab_St → Prop} : Ev d 60 42 [l0, l1, l2, l3, l4] [.int s0, .int s1] σ Q = if s0 ≤ s1 then Ev d 60 110 [l0, l1, l2, l3, l4] [] σ Q else Ev d 60 45 [l0, l1, l2, l3, l4] [] σ Q := ev_B (c := s0 ≤ s1) d60_42 rfl rfl rfl rfl rfl
theorem d60_45 : decode (ab_C 60) 45 = .ok (.iload_n 2, 1) := by decide +kernel
theorem e60_45 {d : Nat} {l0 l1 l3 l4 : Option Value} {x : Int32} {σ : ab_St} {Q : Option Value → ab_St → Prop} : Ev d 60 45 [l0, l1, some (.int x), l3, l4] [] σ Q = Ev d 60 46 [l0, l1, some (.int x), l3, l4] [.int x] σ Q := ev_A1 d60_45 rfl
theorem d60_46 : decode (ab_C 60) 46 = .ok (.getstatic 182, 3) := by decide +kernel
theorem e60_46 {d : Nat} {l0 l1 l2 l3 l4 : Option Value} {s0 : Int32} {σ : ab_St} {Q : Option Value → ab_St → Prop} : Ev d 60 46 [l0, l1, l2, l3, l4] [.int s0] σ Q = Ev d 60 49 [l0, l1, l2, l3, l4] [.null, .int s0] σ Q := ev_H d60_46 rfl rfl rfl rfl rfl rfl
theorem d60_49 : decode (ab_C 60) 49 = .ok (.iload_n 1, 1) := by decide +kernel
theorem e60_49 {d : Nat} {l0 l2 l3 l4 : Option Value} {x : Int32} {s1 : Int32} {σ : ab_St} {Q : Option Value → ab_St → Prop} : Ev d 60 49 [l0, some (.int x), l2, l3, l4] [.null, .int s1] σ Q = Ev d 60 50 [l0, some (.int x), l2, l3, l4] [.int x, .null, .int s1] σ Q := ev_A1 d60_49 rfl
theorem d60_50 : decode (ab_C 60) 50 = .ok (.iconst 1, 1) := by decide +kernel
theorem e60_50 {d : Nat} {l0 l1 l2 l3 l4 : Option Value} {s0 : Int32} {s2 : Int32} {σ : ab_St} {Q : Option Value → ab_St → Prop} : Ev d 60 50 [l0, l1, l2, l3, l4] [.int s0, .null, .int s2] σ Q = Ev d 60 51 [l0, l1, l2, l3, l4] [.int 1, .int s0, .null, .int s2] σ Q := ev_A1 d60_50 rfl
theorem d60_51 : decode (ab_C 60) 51 = .ok (.isub, 1) := by decide +kernel
theorem e60_51 {d : Nat} {l0 l1 l2 l3 l4 : Option Value} {s0 : Int32} {s1 : Int32} {s3 : Int32} {σ : ab_St} {Q : Option Value → ab_St → Prop} : Ev d 60 51 [l0, l1, l2, l3, l4] [.int s0, .int s1, .null, .int s3] σ Q = Ev d 60 52 [l0, l1, l2, l3, l4] [.int (s1 - s0), .null, .int s3] σ Q := ev_A2 d60_51 rfl rfl
theorem d60_52 : decode (ab_C 60) 52 = .ok (.iload_n 3, 1) := by decide +kernel
theorem e60_52 {d : Nat} {l0 l1 l2 l4 : Option Value} {x : Int32} {s0 : Int32} {s2 : Int32} {σ : ab_St} {Q : Option Value → ab_St → Prop} : Ev d 60 52 [l0, l1, l2, some (.int x), l4] [.int s0, .null, .int s2] σ Q = Ev d 60 53 [l0, l1, l2, some (.int x), l4] [.int x, .int s0, .null, .int s2] σ Q := ev_A1 d60_52 rfl
theorem d60_53 : decode (ab_C 60) 53 = .ok (.isub, 1) := by decide +kernel
theorem e60_53 {d : Nat} {l0 l1 l2 l3 l4 : Option Value} {s0 : Int32} {s1 : Int32} {s3 : Int32} {σ : ab_St} {Q : Option Value → ab_St → Prop} : Ev d 60 53 [l0, l1, l2, l3, l4] [.int s0, .int s1, .null, .int s3] σ Q = Ev d 60 54 [l0, l1, l2, l3, l4] [.int (s1 - s0), .null, .int s3] σ Q := ev_A2 d60_53 rfl rfl
theorem d60_54 : decode (ab_C 60) 54 = .ok (.iaload, 1) := by decide +kernel
theorem e60_54 {d : Nat} {l0 l1 l2 l3 l4 : Option Value} {s0 : Int32} {s2 : Int32} {σ : ab_St} {Q : Option Value → ab_St → Prop} : Ev d 60 54 [l0, l1, l2, l3, l4] [.int s0, .null, .int s2] σ Q = (ab_in s0 9 ∧ Ev d 60 55 [l0, l1, l2, l3, l4] [.int (ab_pw s0.toNatClampNeg), .int s2] σ Q) := ev_Hc (c := ab_in s0 9) d60_54 rfl rfl rfl rfl rfl rfl rfl rfl
theorem d60_55 : decode (ab_C 60) 55 = .ok (.idiv, 1) := by decide +kernel
theorem e60_55 {d : Nat} {l0 l1 l2 l3 l4 : Option Value} {s0 : Int32} {s1 : Int32} {σ : ab_St} {Q : Option Value → ab_St → Prop} : Ev d 60 55 [l0, l1, l2, l3, l4] [.int s0, .int s1] σ Q = (¬ s0 = 0 ∧ Ev d 60 56 [l0, l1, l2, l3, l4] [.int (s1 / s0)] σ Q) := ev_D (c := s0 = 0) d60_55 rfl rfl rfl rfl rfl rfl rfl rfl
theorem d60_56 : decode (ab_C 60) 56 = .ok (.bipush 10, 2) := by decide +kernel
theorem e60_56 {d : Nat} {l0 l1 l2 l3 l4 : Option Value} {s0 : Int32} {σ : ab_St} {Q : Option Value → ab_St → Prop} : Ev d 60 56 [l0, l1, l2, l3, l4] [.int s0] σ Q = Ev d 60 58 [l0, l1, l2, l3, l4] [.int 10, .int s0] σ Q := ev_A1 d60_56 rfl
theorem d60_58 : decode (ab_C 60) 58 = .ok (.irem, 1) := by decide +kernel
theorem e60_58 {d : Nat} {l0 l1 l2 l3 l4 : Option Value} {s0 : Int32} {s1 : Int32} {σ : ab_St} {Q : Option Value → ab_St → Prop} : Ev d 60 58 [l0, l1, l2, l3, l4] [.int s0, .int s1] σ Q = (¬ s0 = 0 ∧ Ev d 60 59 [l0, l1, l2, l3, l4] [.int (s1 - s1 / s0 * s0)] σ Q) := ev_D (c := s0 = 0) d60_58 rfl rfl rfl rfl rfl rfl rfl rfl
theorem d60_59 : decode (ab_C 60) 59 = .ok (.istore 4, 2) := by decide +kernel
theorem e60_59 {d : Nat} {l0 l1 l2 l3 l4 : Option Value} {s0 : Int32} {σ : ab_St} {Q : Option Value → ab_St → Prop} : Ev d 60 59 [l0, l1, l2, l3, l4] [.int s0] σ Q = Ev d 60 61 [l0, l1, l2, l3, some (.int s0)] [] σ Q := ev_S d60_59 rfl rfl rfl rfl
theorem d60_61 : decode (ab_C 60) 61 = .ok (.aload_n 0, 1) := by decide +kernel
theorem e60_61 {d : Nat} {l1 l2 l3 l4 : Option Value} {x : Nat} {σ : ab_St} {Q : Option Value → ab_St → Prop} : Ev d 60 61 [some (.ref x), l1, l2, l3, l4] [] σ Q = Ev d 60 62 [some (.ref x), l1, l2, l3, l4] [.ref x] σ Q := ev_A1 d60_61 rfl
theorem d60_62 : decode (ab_C 60) 62 = .ok (.getfield 26, 3) := by decide +kernel
theorem e60_62 {d : Nat} {l0 l1 l2 l3 l4 : Option Value} {s0 : Nat} {σ : ab_St} {Q : Option Value → ab_St → Prop} : Ev d 60 62 [l0, l1, l2, l3, l4] [.ref s0] σ Q = (ab_k s0 = 0 ∧ Ev d 60 65 [l0, l1, l2, l3, l4] [.ref (ab_r s0 2)] σ Q) := ev_Hc (c := ab_k s0 = 0) d60_62 rfl rfl rfl rfl rfl rfl rfl rfl
theorem d60_65 : decode (ab_C 60) 65 = .ok (.iload 4, 2) := by decide +kernel
theorem e60_65 {d : Nat} {l0 l1 l2 l3 : Option Value} {x : Int32} {s0 : Nat} {σ : ab_St} {Q : Option Value → ab_St → Prop} : Ev d 60 65 [l0, l1, l2, l3, some (.int x)] [.ref s0] σ Q = Ev d 60 67 [l0, l1, l2, l3, some (.int x)] [.int x, .ref s0] σ Q := ev_A1 d60_65 rfl
theorem d60_67 : decode (ab_C 60) 67 = .ok (.invokevirtual 148, 3) := by decide +kernel
theorem e60_67 {d : Nat} {l0 l1 l2 l3 l4 : Option Value} {s0 : Int32} {s1 : Nat} {σ : ab_St} {Q : Option Value → ab_St → Prop} : Ev (d + 1) 60 67 [l0, l1, l2, l3, l4] [.int s0, .ref s1] σ Q = (ab_k s1 = 3 ∧ Ev d 31 0 [some (.ref s1), some (.int s0)] [] σ (fun r σ2 => Ev (d + 1) 60 70 [l0, l1, l2, l3, l4] (r.toList ++ []) σ2 Q)) := ev_KV (b := s1) (ls := [l0, l1, l2, l3, l4]) (st := [.int s0, .ref s1]) (as := [.int s0]) (rest := []) d60_67 rfl rfl rfl (Nat.le_of_ble_eq_true rfl) (Nat.le_of_ble_eq_true rfl) (Nat.le_of_ble_eq_true rfl) rfl rfl rfl rfl rfl rfl rfl
theorem d60_70 : decode (ab_C 60) 70 = .ok (.ifCond .eq 19, 3) := by decide +kernel
theorem e60_70 {d : Nat} {l0 l1 l2 l3 l4 : Option Value} {s0 : Int32} {σ : ab_St} {Q : Option Value → ab_St → Prop} : Ev d 60 70 [l0, l1, l2, l3, l4] [.int s0] σ Q = if s0 = 0 then Ev d 60 89 [l0, l1, l2, l3, l4] [] σ Q else Ev d 60 73 [l0, l1, l2, l3, l4] [] σ Q := ev_B (c := s0 = 0) d60_70 rfl rfl rfl rfl rfl
theorem d60_73 : decode (ab_C 60) 73 = .ok (.aload_n 0, 1) := by decide +kernel
theorem e60_73 {d : Nat} {l1 l2 l3 l4 : Option Value} {x : Nat} {σ : ab_St} {Q : Option Value → ab_St → Prop} : Ev d 60 73 [some (.ref x), l1, l2, l3, l4] [] σ Q = Ev d 60 74 [some (.ref x), l1, l2, l3, l4] [.ref x] σ Q := ev_A1 d60_73 rfl
theorem d60_74 : decode (ab_C 60) 74 = .ok (.getfield 37, 3) := by decide +kernel
theorem e60_74 {d : Nat} {l0 l1 l2 l3 l4 : Option Value} {s0 : Nat} {σ : ab_St} {Q : Option Value → ab_St → Prop} : Ev d 60 74 [l0, l1, l2, l3, l4] [.ref s0] σ Q = (ab_k s0 = 0 ∧ Ev d 60 77 [l0, l1, l2, l3, l4] [.ref (ab_r s0 4)] σ Q) := ev_Hc (c := ab_k s0 = 0) d60_74 rfl rfl rfl rfl rfl rfl rfl rfl
theorem d60_77 : decode (ab_C 60) 77 = .ok (.aload_n 0, 1) := by decide +kernel
theorem e60_77 {d : Nat} {l1 l2 l3 l4 : Option Value} {x : Nat} {s0 : Nat} {σ : ab_St} {Q : Option Value → ab_St → Prop} : Ev d 60 77 [some (.ref x), l1, l2, l3, l4] [.ref s0] σ Q = Ev d 60 78 [some (.ref x), l1, l2, l3, l4] [.ref x, .ref s0] σ Q := ev_A1 d60_77 rfl
theorem d60_78 : decode (ab_C 60) 78 = .ok (.getfield 26, 3) := by decide +kernel
theorem e60_78 {d : Nat} {l0 l1 l2 l3 l4 : Option Value} {s0 : Nat} {s1 : Nat} {σ : ab_St} {Q : Option Value → ab_St → Prop} : Ev d 60 78 [l0, l1, l2, l3, l4] [.ref s0, .ref s1] σ Q = (ab_k s0 = 0 ∧ Ev d 60 81 [l0, l1, l2, l3, l4] [.ref (ab_r s0 2), .ref s1] σ Q) := ev_Hc (c := ab_k s0 = 0) d60_78 rfl rfl rfl rfl rfl rfl rfl rfl
theorem d60_81 : decode (ab_C 60) 81 = .ok (.iload 4, 2) := by decide +kernel
theorem e60_81 {d : Nat} {l0 l1 l2 l3 : Option Value} {x : Int32} {s0 : Nat} {s1 : Nat} {σ : ab_St} {Q : Option Value → ab_St → Prop} : Ev d 60 81 [l0, l1, l2, l3, some (.int x)] [.ref s0, .ref s1] σ Q = Ev d 60 83 [l0, l1, l2, l3, some (.int x)] [.int x, .ref s0, .ref s1] σ Q := ev_A1 d60_81 rfl
theorem d60_83 : decode (ab_C 60) 83 = .ok (.invokevirtual 161, 3) := by decide +kernel
theorem e60_83 {d : Nat} {l0 l1 l2 l3 l4 : Option Value} {s0 : Int32} {s1 : Nat} {s2 : Nat} {σ : ab_St} {Q : Option Value → ab_St → Prop} : Ev (d + 1) 60 83 [l0, l1, l2, l3, l4] [.int s0, .ref s1, .ref s2] σ Q = (ab_k s2 = 4 ∧ Ev d 46 0 [some (.ref s2), some (.ref s1), some (.int s0), none, none] [] σ (fun r σ2 => Ev (d + 1) 60 86 [l0, l1, l2, l3, l4] (r.toList ++ []) σ2 Q)) := ev_KV (b := s2) (ls := [l0, l1, l2, l3, l4]) (st := [.int s0, .ref s1, .ref s2]) (as := [.ref s1, .int s0]) (rest := []) d60_83 rfl rfl rfl (Nat.le_of_ble_eq_true rfl) (Nat.le_of_ble_eq_true rfl) (Nat.le_of_ble_eq_true rfl) rfl rfl rfl rfl rfl rfl rfl
theorem d60_86 : decode (ab_C 60) 86 = .ok (.ifCond .ne 5, 3) := by decide +kernel
theorem e60_86 {d : Nat} {l0 l1 l2 l3 l4 : Option Value} {s0 : Int32} {σ : ab_St} {Q : Option Value → ab_St → Prop} : Ev d 60 86 [l0, l1, l2, l3, l4] [.int s0] σ Q = if s0 = 0 then Ev d 60 89 [l0, l1, l2, l3, l4] [] σ Q else Ev d 60 91 [l0, l1, l2, l3, l4] [] σ Q := ev_B (c := s0 = 0) d60_86 rfl rfl rfl rfl rfl
theorem d60_89 : decode (ab_C 60) 89 = .ok (.iload_n 3, 1) := by decide +kernel
theorem e60_89 {d : Nat} {l0 l1 l2 l4 : Option Value} {x : Int32} {σ : ab_St} {Q : Option Value → ab_St → Prop} : Ev d 60 89 [l0, l1, l2, some (.int x), l4] [] σ Q = Ev d 60 90 [l0, l1, l2, some (.int x), l4] [.int x] σ Q := ev_A1 d60_89 rfl
theorem d60_90 : decode (ab_C 60) 90 = .ok (.ireturn, 1) := by decide +kernel
theorem e60_90 {d : Nat} {l0 l1 l2 l3 l4 : Option Value} {s0 : Int32} {σ : ab_St} {Q : Option Value → ab_St → Prop} : Ev d 60 90 [l0, l1, l2, l3, l4] [.int s0] σ Q = Q (some (.int s0)) σ := ev_E d60_90 rfl rfl rfl rfl rfl rfl rfl
theorem d60_91 : decode (ab_C 60) 91 = .ok (.aload_n 0, 1) := by decide +kernel
theorem e60_91 {d : Nat} {l1 l2 l3 l4 : Option Value} {x : Nat} {σ : ab_St} {Q : Option Value → ab_St → Prop} : Ev d 60 91 [some (.ref x), l1, l2, l3, l4] [] σ Q = Ev d 60 92 [some (.ref x), l1, l2, l3, l4] [.ref x] σ Q := ev_A1 d60_91 rfl
theorem d60_92 : decode (ab_C 60) 92 = .ok (.getfield 37, 3) := by decide +kernel
theorem e60_92 {d : Nat} {l0 l1 l2 l3 l4 : Option Value} {s0 : Nat} {σ : ab_St} {Q : Option Value → ab_St → Prop} : Ev d 60 92 [l0, l1, l2, l3, l4] [.ref s0] σ Q = (ab_k s0 = 0 ∧ Ev d 60 95 [l0, l1, l2, l3, l4] [.ref (ab_r s0 4)] σ Q) := ev_Hc (c := ab_k s0 = 0) d60_92 rfl rfl rfl rfl rfl rfl rfl rfl
theorem d60_95 : decode (ab_C 60) 95 = .ok (.aload_n 0, 1) := by decide +kernel
theorem e60_95 {d : Nat} {l1 l2 l3 l4 : Option Value} {x : Nat} {s0 : Nat} {σ : ab_St} {Q : Option Value → ab_St → Prop} : Ev d 60 95 [some (.ref x), l1, l2, l3, l4] [.ref s0] σ Q = Ev d 60 96 [some (.ref x), l1, l2, l3, l4] [.ref x, .ref s0] σ Q := ev_A1 d60_95 rfl
theorem d60_96 : decode (ab_C 60) 96 = .ok (.getfield 26, 3) := by decide +kernel
theorem e60_96 {d : Nat} {l0 l1 l2 l3 l4 : Option Value} {s0 : Nat} {s1 : Nat} {σ : ab_St} {Q : Option Value → ab_St → Prop} : Ev d 60 96 [l0, l1, l2, l3, l4] [.ref s0, .ref s1] σ Q = (ab_k s0 = 0 ∧ Ev d 60 99 [l0, l1, l2, l3, l4] [.ref (ab_r s0 2), .ref s1] σ Q) := ev_Hc (c := ab_k s0 = 0) d60_96 rfl rfl rfl rfl rfl rfl rfl rfl
theorem d60_99 : decode (ab_C 60) 99 = .ok (.iload 4, 2) := by decide +kernel
theorem e60_99 {d : Nat} {l0 l1 l2 l3 : Option Value} {x : Int32} {s0 : Nat} {s1 : Nat} {σ : ab_St} {Q : Option Value → ab_St → Prop} : Ev d 60 99 [l0, l1, l2, l3, some (.int x)] [.ref s0, .ref s1] σ Q = Ev d 60 101 [l0, l1, l2, l3, some (.int x)] [.int x, .ref s0, .ref s1] σ Q := ev_A1 d60_99 rfl
theorem d60_101 : decode (ab_C 60) 101 = .ok (.invokevirtual 169, 3) := by decide +kernel
theorem e60_101 {d : Nat} {l0 l1 l2 l3 l4 : Option Value} {s0 : Int32} {s1 : Nat} {s2 : Nat} {σ : ab_St} {Q : Option Value → ab_St → Prop} : Ev (d + 1) 60 101 [l0, l1, l2, l3, l4] [.int s0, .ref s1, .ref s2] σ Q = (ab_k s2 = 4 ∧ Ev d 49 0 [some (.ref s2), some (.ref s1), some (.int s0)] [] σ (fun r σ2 => Ev (d + 1) 60 104 [l0, l1, l2, l3, l4] (r.toList ++ []) σ2 Q)) := ev_KV (b := s2) (ls := [l0, l1, l2, l3, l4]) (st := [.int s0, .ref s1, .ref s2]) (as := [.ref s1, .int s0]) (rest := []) d60_101 rfl rfl rfl (Nat.le_of_ble_eq_true rfl) (Nat.le_of_ble_eq_true rfl) (Nat.le_of_ble_eq_true rfl) rfl rfl rfl rfl rfl rfl rfl
theorem d60_104 : decode (ab_C 60) 104 = .ok (.iinc 3 1, 3) := by decide +kernel
theorem e60_104 {d : Nat} {l0 l1 l2 l4 : Option Value} {x : Int32} {σ : ab_St} {Q : Option Value → ab_St → Prop} : Ev d 60 104 [l0, l1, l2, some (.int x), l4] [] σ Q = Ev d 60 107 [l0, l1, l2, some (.int (x + 1)), l4] [] σ Q := ev_S d60_104 rfl rfl rfl rfl
theorem d60_107 : decode (ab_C 60) 107 = .ok (.goto (-67), 3) := by decide +kernel
theorem e60_107 {d : Nat} {l0 l1 l2 l3 l4 : Option Value} {σ : ab_St} {Q : Option Value → ab_St → Prop} : Ev d 60 107 [l0, l1, l2, l3, l4] [] σ Q = Ev d 60 40 [l0, l1, l2, l3, l4] [] σ Q := ev_J d60_107 rfl rfl rfl rfl rfl
theorem d60_110 : decode (ab_C 60) 110 = .ok (.bipush (-9), 2) := by decide +kernel
theorem e60_110 {d : Nat} {l0 l1 l2 l3 l4 : Option Value} {σ : ab_St} {Q : Option Value → ab_St → Prop} : Ev d 60 110 [l0, l1, l2, l3, l4] [] σ Q = Ev d 60 112 [l0, l1, l2, l3, l4] [.int (-9)] σ Q := ev_A1 d60_110 rfl
theorem d60_112 : decode (ab_C 60) 112 = .ok (.ireturn, 1) := by decide +kernel
theorem e60_112 {d : Nat} {l0 l1 l2 l3 l4 : Option Value} {s0 : Int32} {σ : ab_St} {Q : Option Value → ab_St → Prop} : Ev d 60 112 [l0, l1, l2, l3, l4] [.int s0] σ Q = Q (some (.int s0)) σ := ev_E d60_112 rfl rfl rfl rfl rfl rfl rfl
/-! SaidLeast.most(I)I -/
theorem d61_0 : decode (ab_C 61) 0 = .ok (.iload_n 1, 1) := by decide +kernel
theorem e61_0 {d : Nat} {l0 : Option Value} {x : Int32} {σ : ab_St} {Q : Option Value → ab_St → Prop} : Ev d 61 0 [l0, some (.int x)] [] σ Q = Ev d 61 1 [l0, some (.int x)] [.int x] σ Q := ev_A1 d61_0 rfl
theorem d61_1 : decode (ab_C 61) 1 = .ok (.ifCond .lt 9, 3) := by decide +kernel
theorem e61_1 {d : Nat} {l0 l1 : Option Value} {s0 : Int32} {σ : ab_St} {Q : Option Value → ab_St → Prop} : Ev d 61 1 [l0, l1] [.int s0] σ Q = if s0 < 0 then Ev d 61 10 [l0, l1] [] σ Q else Ev d 61 4 [l0, l1] [] σ Q := ev_B (c := s0 < 0) d61_1 rfl rfl rfl rfl rfl
theorem d61_4 : decode (ab_C 61) 4 = .ok (.iload_n 1, 1) := by decide +kernel
theorem e61_4 {d : Nat} {l0 : Option Value} {x : Int32} {σ : ab_St} {Q : Option Value → ab_St → Prop} : Ev d 61 4 [l0, some (.int x)] [] σ Q = Ev d 61 5 [l0, some (.int x)] [.int x] σ Q := ev_A1 d61_4 rfl
theorem d61_5 : decode (ab_C 61) 5 = .ok (.bipush 72, 2) := by decide +kernel
theorem e61_5 {d : Nat} {l0 l1 : Option Value} {s0 : Int32} {σ : ab_St} {Q : Option Value → ab_St → Prop} : Ev d 61 5 [l0, l1] [.int s0] σ Q = Ev d 61 7 [l0, l1] [.int 72, .int s0] σ Q := ev_A1 d61_5 rfl
theorem d61_7 : decode (ab_C 61) 7 = .ok (.if_icmp .le 6, 3) := by decide +kernel
theorem e61_7 {d : Nat} {l0 l1 : Option Value} {s0 : Int32} {s1 : Int32} {σ : ab_St} {Q : Option Value → ab_St → Prop} : Ev d 61 7 [l0, l1] [.int s0, .int s1] σ Q = if s1 ≤ s0 then Ev d 61 13 [l0, l1] [] σ Q else Ev d 61 10 [l0, l1] [] σ Q := ev_B (c := s1 ≤ s0) d61_7 rfl rfl rfl rfl rfl
theorem d61_10 : decode (ab_C 61) 10 = .ok (.bipush (-2), 2) := by decide +kernel
theorem e61_10 {d : Nat} {l0 l1 : Option Value} {σ : ab_St} {Q : Option Value → ab_St → Prop} : Ev d 61 10 [l0, l1] [] σ Q = Ev d 61 12 [l0, l1] [.int (-2)] σ Q := ev_A1 d61_10 rfl
theorem d61_12 : decode (ab_C 61) 12 = .ok (.ireturn, 1) := by decide +kernel
theorem e61_12 {d : Nat} {l0 l1 : Option Value} {s0 : Int32} {σ : ab_St} {Q : Option Value → ab_St → Prop} : Ev d 61 12 [l0, l1] [.int s0] σ Q = Q (some (.int s0)) σ := ev_E d61_12 rfl rfl rfl rfl rfl rfl rfl
theorem d61_13 : decode (ab_C 61) 13 = .ok (.aload_n 0, 1) := by decide +kernel
theorem e61_13 {d : Nat} {l1 : Option Value} {x : Nat} {σ : ab_St} {Q : Option Value → ab_St → Prop} : Ev d 61 13 [some (.ref x), l1] [] σ Q = Ev d 61 14 [some (.ref x), l1] [.ref x] σ Q := ev_A1 d61_13 rfl
theorem d61_14 : decode (ab_C 61) 14 = .ok (.getfield 54, 3) := by decide +kernel
theorem e61_14 {d : Nat} {l0 l1 : Option Value} {s0 : Nat} {σ : ab_St} {Q : Option Value → ab_St → Prop} : Ev d 61 14 [l0, l1] [.ref s0] σ Q = (ab_k s0 = 0 ∧ Ev d 61 17 [l0, l1] [.ref (ab_r s0 7)] σ Q) := ev_Hc (c := ab_k s0 = 0) d61_14 rfl rfl rfl rfl rfl rfl rfl rfl
theorem d61_17 : decode (ab_C 61) 17 = .ok (.aload_n 0, 1) := by decide +kernel
theorem e61_17 {d : Nat} {l1 : Option Value} {x : Nat} {s0 : Nat} {σ : ab_St} {Q : Option Value → ab_St → Prop} : Ev d 61 17 [some (.ref x), l1] [.ref s0] σ Q = Ev d 61 18 [some (.ref x), l1] [.ref x, .ref s0] σ Q := ev_A1 d61_17 rfl
theorem d61_18 : decode (ab_C 61) 18 = .ok (.getfield 26, 3) := by decide +kernel
theorem e61_18 {d : Nat} {l0 l1 : Option Value} {s0 : Nat} {s1 : Nat} {σ : ab_St} {Q : Option Value → ab_St → Prop} : Ev d 61 18 [l0, l1] [.ref s0, .ref s1] σ Q = (ab_k s0 = 0 ∧ Ev d 61 21 [l0, l1] [.ref (ab_r s0 2), .ref s1] σ Q) := ev_Hc (c := ab_k s0 = 0) d61_18 rfl rfl rfl rfl rfl rfl rfl rfl
theorem d61_21 : decode (ab_C 61) 21 = .ok (.aload_n 0, 1) := by decide +kernel
theorem e61_21 {d : Nat} {l1 : Option Value} {x : Nat} {s0 : Nat} {s1 : Nat} {σ : ab_St} {Q : Option Value → ab_St → Prop} : Ev d 61 21 [some (.ref x), l1] [.ref s0, .ref s1] σ Q = Ev d 61 22 [some (.ref x), l1] [.ref x, .ref s0, .ref s1] σ Q := ev_A1 d61_21 rfl
theorem d61_22 : decode (ab_C 61) 22 = .ok (.getfield 33, 3) := by decide +kernel
theorem e61_22 {d : Nat} {l0 l1 : Option Value} {s0 : Nat} {s1 : Nat} {s2 : Nat} {σ : ab_St} {Q : Option Value → ab_St → Prop} : Ev d 61 22 [l0, l1] [.ref s0, .ref s1, .ref s2] σ Q = (ab_k s0 = 0 ∧ Ev d 61 25 [l0, l1] [.ref (ab_r s0 3), .ref s1, .ref s2] σ Q) := ev_Hc (c := ab_k s0 = 0) d61_22 rfl rfl rfl rfl rfl rfl rfl rfl
theorem d61_25 : decode (ab_C 61) 25 = .ok (.iload_n 1, 1) := by decide +kernel
theorem e61_25 {d : Nat} {l0 : Option Value} {x : Int32} {s0 : Nat} {s1 : Nat} {s2 : Nat} {σ : ab_St} {Q : Option Value → ab_St → Prop} : Ev d 61 25 [l0, some (.int x)] [.ref s0, .ref s1, .ref s2] σ Q = Ev d 61 26 [l0, some (.int x)] [.int x, .ref s0, .ref s1, .ref s2] σ Q := ev_A1 d61_25 rfl
theorem d61_26 : decode (ab_C 61) 26 = .ok (.invokevirtual 185, 3) := by decide +kernel
theorem e61_26 {d : Nat} {l0 l1 : Option Value} {s0 : Int32} {s1 : Nat} {s2 : Nat} {s3 : Nat} {σ : ab_St} {Q : Option Value → ab_St → Prop} : Ev (d + 1) 61 26 [l0, l1] [.int s0, .ref s1, .ref s2, .ref s3] σ Q = (ab_k s3 = 6 ∧ Ev d 62 0 [some (.ref s3), some (.ref s2), some (.ref s1), some (.int s0)] [] σ (fun r σ2 => Ev (d + 1) 61 29 [l0, l1] (r.toList ++ []) σ2 Q)) := ev_KV (b := s3) (ls := [l0, l1]) (st := [.int s0, .ref s1, .ref s2, .ref s3]) (as := [.ref s2, .ref s1, .int s0]) (rest := []) d61_26 rfl rfl rfl (Nat.le_of_ble_eq_true rfl) (Nat.le_of_ble_eq_true rfl) (Nat.le_of_ble_eq_true rfl) rfl rfl rfl rfl rfl rfl rfl
theorem d61_29 : decode (ab_C 61) 29 = .ok (.ireturn, 1) := by decide +kernel
theorem e61_29 {d : Nat} {l0 l1 : Option Value} {s0 : Int32} {σ : ab_St} {Q : Option Value → ab_St → Prop} : Ev d 61 29 [l0, l1] [.int s0] σ Q = Q (some (.int s0)) σ := ev_E d61_29 rfl rfl rfl rfl rfl rfl rfl
/-! SaidLeast$Orders.mostWorth(LSaidLeast$Told;LSaidLeast$State;I)I -/
theorem d62_0 : decode (ab_C 62) 0 = .ok (.aload_n 0, 1) := by decide +kernel
theorem e62_0 {d : Nat} {l1 l2 l3 : Option Value} {x : Nat} {σ : ab_St} {Q : Option Value → ab_St → Prop} : Ev d 62 0 [some (.ref x), l1, l2, l3] [] σ Q = Ev d 62 1 [some (.ref x), l1, l2, l3] [.ref x] σ Q := ev_A1 d62_0 rfl
theorem d62_1 : decode (ab_C 62) 1 = .ok (.aload_n 1, 1) := by decide +kernel
theorem e62_1 {d : Nat} {l0 l2 l3 : Option Value} {x : Nat} {s0 : Nat} {σ : ab_St} {Q : Option Value → ab_St → Prop} : Ev d 62 1 [l0, some (.ref x), l2, l3] [.ref s0] σ Q = Ev d 62 2 [l0, some (.ref x), l2, l3] [.ref x, .ref s0] σ Q := ev_A1 d62_1 rfl
theorem d62_2 : decode (ab_C 62) 2 = .ok (.aload_n 2, 1) := by decide +kernel
theorem e62_2 {d : Nat} {l0 l1 l3 : Option Value} {x : Nat} {s0 : Nat} {s1 : Nat} {σ : ab_St} {Q : Option Value → ab_St → Prop} : Ev d 62 2 [l0, l1, some (.ref x), l3] [.ref s0, .ref s1] σ Q = Ev d 62 3 [l0, l1, some (.ref x), l3] [.ref x, .ref s0, .ref s1] σ Q := ev_A1 d62_2 rfl
theorem d62_3 : decode (ab_C 62) 3 = .ok (.invokevirtual 34, 3) := by decide +kernel
theorem e62_3 {d : Nat} {l0 l1 l2 l3 : Option Value} {s0 : Nat} {s1 : Nat} {s2 : Nat} {σ : ab_St} {Q : Option Value → ab_St → Prop} : Ev (d + 1) 62 3 [l0, l1, l2, l3] [.ref s0, .ref s1, .ref s2] σ Q = (ab_k s2 = 6 ∧ Ev d 63 0 [some (.ref s2), some (.ref s1), some (.ref s0), none] [] σ (fun r σ2 => Ev (d + 1) 62 6 [l0, l1, l2, l3] (r.toList ++ []) σ2 Q)) := ev_KV (b := s2) (ls := [l0, l1, l2, l3]) (st := [.ref s0, .ref s1, .ref s2]) (as := [.ref s1, .ref s0]) (rest := []) d62_3 rfl rfl rfl (Nat.le_of_ble_eq_true rfl) (Nat.le_of_ble_eq_true rfl) (Nat.le_of_ble_eq_true rfl) rfl rfl rfl rfl rfl rfl rfl
theorem d62_6 : decode (ab_C 62) 6 = .ok (.aload_n 0, 1) := by decide +kernel
theorem e62_6 {d : Nat} {l1 l2 l3 : Option Value} {x : Nat} {σ : ab_St} {Q : Option Value → ab_St → Prop} : Ev d 62 6 [some (.ref x), l1, l2, l3] [] σ Q = Ev d 62 7 [some (.ref x), l1, l2, l3] [.ref x] σ Q := ev_A1 d62_6 rfl
theorem d62_7 : decode (ab_C 62) 7 = .ok (.aload_n 1, 1) := by decide +kernel
theorem e62_7 {d : Nat} {l0 l2 l3 : Option Value} {x : Nat} {s0 : Nat} {σ : ab_St} {Q : Option Value → ab_St → Prop} : Ev d 62 7 [l0, some (.ref x), l2, l3] [.ref s0] σ Q = Ev d 62 8 [l0, some (.ref x), l2, l3] [.ref x, .ref s0] σ Q := ev_A1 d62_7 rfl
theorem d62_8 : decode (ab_C 62) 8 = .ok (.aload_n 2, 1) := by decide +kernel
theorem e62_8 {d : Nat} {l0 l1 l3 : Option Value} {x : Nat} {s0 : Nat} {s1 : Nat} {σ : ab_St} {Q : Option Value → ab_St → Prop} : Ev d 62 8 [l0, l1, some (.ref x), l3] [.ref s0, .ref s1] σ Q = Ev d 62 9 [l0, l1, some (.ref x), l3] [.ref x, .ref s0, .ref s1] σ Q := ev_A1 d62_8 rfl
theorem d62_9 : decode (ab_C 62) 9 = .ok (.iload_n 3, 1) := by decide +kernel
theorem e62_9 {d : Nat} {l0 l1 l2 : Option Value} {x : Int32} {s0 : Nat} {s1 : Nat} {s2 : Nat} {σ : ab_St} {Q : Option Value → ab_St → Prop} : Ev d 62 9 [l0, l1, l2, some (.int x)] [.ref s0, .ref s1, .ref s2] σ Q = Ev d 62 10 [l0, l1, l2, some (.int x)] [.int x, .ref s0, .ref s1, .ref s2] σ Q := ev_A1 d62_9 rfl
theorem d62_10 : decode (ab_C 62) 10 = .ok (.invokevirtual 38, 3) := by decide +kernel
theorem e62_10 {d : Nat} {l0 l1 l2 l3 : Option Value} {s0 : Int32} {s1 : Nat} {s2 : Nat} {s3 : Nat} {σ : ab_St} {Q : Option Value → ab_St → Prop} : Ev (d + 1) 62 10 [l0, l1, l2, l3] [.int s0, .ref s1, .ref s2, .ref s3] σ Q = (ab_k s3 = 6 ∧ Ev d 69 0 [some (.ref s3), some (.ref s2), some (.ref s1), some (.int s0), none, none] [] σ (fun r σ2 => Ev (d + 1) 62 13 [l0, l1, l2, l3] (r.toList ++ []) σ2 Q)) := ev_KV (b := s3) (ls := [l0, l1, l2, l3]) (st := [.int s0, .ref s1, .ref s2, .ref s3]) (as := [.ref s2, .ref s1, .int s0]) (rest := []) d62_10 rfl rfl rfl (Nat.le_of_ble_eq_true rfl) (Nat.le_of_ble_eq_true rfl) (Nat.le_of_ble_eq_true rfl) rfl rfl rfl rfl rfl rfl rfl
theorem d62_13 : decode (ab_C 62) 13 = .ok (.ireturn, 1) := by decide +kernel
theorem e62_13 {d : Nat} {l0 l1 l2 l3 : Option Value} {s0 : Int32} {σ : ab_St} {Q : Option Value → ab_St → Prop} : Ev d 62 13 [l0, l1, l2, l3] [.int s0] σ Q = Q (some (.int s0)) σ := ev_E d62_13 rfl rfl rfl rfl rfl rfl rfl
/-! SaidLeast$Orders.spread(LSaidLeast$Told;LSaidLeast$State;)V -/
theorem d63_0 : decode (ab_C 63) 0 = .ok (.aload_n 0, 1) := by decide +kernel
theorem e63_0 {d : Nat} {l1 l2 l3 : Option Value} {x : Nat} {σ : ab_St} {Q : Option Value → ab_St → Prop} : Ev d 63 0 [some (.ref x), l1, l2, l3] [] σ Q = Ev d 63 1 [some (.ref x), l1, l2, l3] [.ref x] σ Q := ev_A1 d63_0 rfl
theorem d63_1 : decode (ab_C 63) 1 = .ok (.getfield 18, 3) := by decide +kernel
theorem e63_1 {d : Nat} {l0 l1 l2 l3 : Option Value} {s0 : Nat} {σ : ab_St} {Q : Option Value → ab_St → Prop} : Ev d 63 1 [l0, l1, l2, l3] [.ref s0] σ Q = (ab_k s0 = 6 ∧ Ev d 63 4 [l0, l1, l2, l3] [.ref (ab_r s0 1)] σ Q) := ev_Hc (c := ab_k s0 = 6) d63_1 rfl rfl rfl rfl rfl rfl rfl rfl
theorem d63_4 : decode (ab_C 63) 4 = .ok (.iconst 0, 1) := by decide +kernel
theorem e63_4 {d : Nat} {l0 l1 l2 l3 : Option Value} {s0 : Nat} {σ : ab_St} {Q : Option Value → ab_St → Prop} : Ev d 63 4 [l0, l1, l2, l3] [.ref s0] σ Q = Ev d 63 5 [l0, l1, l2, l3] [.int 0, .ref s0] σ Q := ev_A1 d63_4 rfl
theorem d63_5 : decode (ab_C 63) 5 = .ok (.invokestatic 68, 3) := by decide +kernel
theorem e63_5 {d : Nat} {l0 l1 l2 l3 : Option Value} {s0 : Int32} {s1 : Nat} {σ : ab_St} {Q : Option Value → ab_St → Prop} : Ev (d + 1) 63 5 [l0, l1, l2, l3] [.int s0, .ref s1] σ Q = Ev d 17 0 [some (.ref s1), some (.int s0), none, none] [] σ (fun r σ2 => Ev (d + 1) 63 8 [l0, l1, l2, l3] (r.toList ++ []) σ2 Q) := ev_K0 (y := 17) (ls := [l0, l1, l2, l3]) (st := [.int s0, .ref s1]) (as := [.ref s1, .int s0]) (rest := []) d63_5 rfl rfl rfl rfl rfl rfl rfl rfl
theorem d63_8 : decode (ab_C 63) 8 = .ok (.aload_n 0, 1) := by decide +kernel
theorem e63_8 {d : Nat} {l1 l2 l3 : Option Value} {x : Nat} {σ : ab_St} {Q : Option Value → ab_St → Prop} : Ev d 63 8 [some (.ref x), l1, l2, l3] [] σ Q = Ev d 63 9 [some (.ref x), l1, l2, l3] [.ref x] σ Q := ev_A1 d63_8 rfl
theorem d63_9 : decode (ab_C 63) 9 = .ok (.getfield 18, 3) := by decide +kernel
theorem e63_9 {d : Nat} {l0 l1 l2 l3 : Option Value} {s0 : Nat} {σ : ab_St} {Q : Option Value → ab_St → Prop} : Ev d 63 9 [l0, l1, l2, l3] [.ref s0] σ Q = (ab_k s0 = 6 ∧ Ev d 63 12 [l0, l1, l2, l3] [.ref (ab_r s0 1)] σ Q) := ev_Hc (c := ab_k s0 = 6) d63_9 rfl rfl rfl rfl rfl rfl rfl rfl
theorem d63_12 : decode (ab_C 63) 12 = .ok (.aload_n 2, 1) := by decide +kernel
theorem e63_12 {d : Nat} {l0 l1 l3 : Option Value} {x : Nat} {s0 : Nat} {σ : ab_St} {Q : Option Value → ab_St → Prop} : Ev d 63 12 [l0, l1, some (.ref x), l3] [.ref s0] σ Q = Ev d 63 13 [l0, l1, some (.ref x), l3] [.ref x, .ref s0] σ Q := ev_A1 d63_12 rfl
theorem d63_13 : decode (ab_C 63) 13 = .ok (.getfield 46, 3) := by decide +kernel
theorem e63_13 {d : Nat} {l0 l1 l2 l3 : Option Value} {s0 : Nat} {s1 : Nat} {σ : ab_St} {Q : Option Value → ab_St → Prop} : Ev d 63 13 [l0, l1, l2, l3] [.ref s0, .ref s1] σ Q = (ab_k s0 = 4 ∧ Ev d 63 16 [l0, l1, l2, l3] [.int (σ.1 s0 2), .ref s1] σ Q) := ev_Hc (c := ab_k s0 = 4) d63_13 rfl rfl rfl rfl rfl rfl rfl rfl
theorem d63_16 : decode (ab_C 63) 16 = .ok (.aload_n 2, 1) := by decide +kernel
theorem e63_16 {d : Nat} {l0 l1 l3 : Option Value} {x : Nat} {s0 : Int32} {s1 : Nat} {σ : ab_St} {Q : Option Value → ab_St → Prop} : Ev d 63 16 [l0, l1, some (.ref x), l3] [.int s0, .ref s1] σ Q = Ev d 63 17 [l0, l1, some (.ref x), l3] [.ref x, .int s0, .ref s1] σ Q := ev_A1 d63_16 rfl
theorem d63_17 : decode (ab_C 63) 17 = .ok (.getfield 52, 3) := by decide +kernel
theorem e63_17 {d : Nat} {l0 l1 l2 l3 : Option Value} {s0 : Nat} {s1 : Int32} {s2 : Nat} {σ : ab_St} {Q : Option Value → ab_St → Prop} : Ev d 63 17 [l0, l1, l2, l3] [.ref s0, .int s1, .ref s2] σ Q = (ab_k s0 = 4 ∧ Ev d 63 20 [l0, l1, l2, l3] [.int (σ.1 s0 3), .int s1, .ref s2] σ Q) := ev_Hc (c := ab_k s0 = 4) d63_17 rfl rfl rfl rfl rfl rfl rfl rfl
theorem d63_20 : decode (ab_C 63) 20 = .ok (.invokestatic 74, 3) := by decide +kernel
theorem e63_20 {d : Nat} {l0 l1 l2 l3 : Option Value} {s0 : Int32} {s1 : Int32} {s2 : Nat} {σ : ab_St} {Q : Option Value → ab_St → Prop} : Ev (d + 1) 63 20 [l0, l1, l2, l3] [.int s0, .int s1, .ref s2] σ Q = Ev d 64 0 [some (.int s0)] [] σ (fun r σ2 => Ev (d + 1) 63 23 [l0, l1, l2, l3] (r.toList ++ [.int s1, .ref s2]) σ2 Q) := ev_K0 (y := 64) (ls := [l0, l1, l2, l3]) (st := [.int s0, .int s1, .ref s2]) (as := [.int s0]) (rest := [.int s1, .ref s2]) d63_20 rfl rfl rfl rfl rfl rfl rfl rfl
theorem d63_23 : decode (ab_C 63) 23 = .ok (.iastore, 1) := by decide +kernel
theorem e63_23 {d : Nat} {l0 l1 l2 l3 : Option Value} {s0 : Int32} {s1 : Int32} {s2 : Nat} {σ : ab_St} {Q : Option Value → ab_St → Prop} : Ev d 63 23 [l0, l1, l2, l3] [.int s0, .int s1, .ref s2] σ Q = ((ab_k s2 = 100 ∧ ab_in s1 (ab_n s2)) ∧ Ev d 63 24 [l0, l1, l2, l3] [] (ab_wI σ s2 (upd (σ.1 s2) s1.toNatClampNeg s0)) Q) := ev_Hc (c := ab_k s2 = 100 ∧ ab_in s1 (ab_n s2)) d63_23 rfl rfl rfl rfl rfl rfl rfl rfl
theorem d63_24 : decode (ab_C 63) 24 = .ok (.aload_n 0, 1) := by decide +kernel
theorem e63_24 {d : Nat} {l1 l2 l3 : Option Value} {x : Nat} {σ : ab_St} {Q : Option Value → ab_St → Prop} : Ev d 63 24 [some (.ref x), l1, l2, l3] [] σ Q = Ev d 63 25 [some (.ref x), l1, l2, l3] [.ref x] σ Q := ev_A1 d63_24 rfl
theorem d63_25 : decode (ab_C 63) 25 = .ok (.getfield 25, 3) := by decide +kernel
theorem e63_25 {d : Nat} {l0 l1 l2 l3 : Option Value} {s0 : Nat} {σ : ab_St} {Q : Option Value → ab_St → Prop} : Ev d 63 25 [l0, l1, l2, l3] [.ref s0] σ Q = (ab_k s0 = 6 ∧ Ev d 63 28 [l0, l1, l2, l3] [.ref (ab_r s0 3)] σ Q) := ev_Hc (c := ab_k s0 = 6) d63_25 rfl rfl rfl rfl rfl rfl rfl rfl
theorem d63_28 : decode (ab_C 63) 28 = .ok (.aload_n 2, 1) := by decide +kernel
theorem e63_28 {d : Nat} {l0 l1 l3 : Option Value} {x : Nat} {s0 : Nat} {σ : ab_St} {Q : Option Value → ab_St → Prop} : Ev d 63 28 [l0, l1, some (.ref x), l3] [.ref s0] σ Q = Ev d 63 29 [l0, l1, some (.ref x), l3] [.ref x, .ref s0] σ Q := ev_A1 d63_28 rfl
theorem d63_29 : decode (ab_C 63) 29 = .ok (.getfield 46, 3) := by decide +kernel
theorem e63_29 {d : Nat} {l0 l1 l2 l3 : Option Value} {s0 : Nat} {s1 : Nat} {σ : ab_St} {Q : Option Value → ab_St → Prop} : Ev d 63 29 [l0, l1, l2, l3] [.ref s0, .ref s1] σ Q = (ab_k s0 = 4 ∧ Ev d 63 32 [l0, l1, l2, l3] [.int (σ.1 s0 2), .ref s1] σ Q) := ev_Hc (c := ab_k s0 = 4) d63_29 rfl rfl rfl rfl rfl rfl rfl rfl
theorem d63_32 : decode (ab_C 63) 32 = .ok (.iconst 0, 1) := by decide +kernel
theorem e63_32 {d : Nat} {l0 l1 l2 l3 : Option Value} {s0 : Int32} {s1 : Nat} {σ : ab_St} {Q : Option Value → ab_St → Prop} : Ev d 63 32 [l0, l1, l2, l3] [.int s0, .ref s1] σ Q = Ev d 63 33 [l0, l1, l2, l3] [.int 0, .int s0, .ref s1] σ Q := ev_A1 d63_32 rfl
theorem d63_33 : decode (ab_C 63) 33 = .ok (.iastore, 1) := by decide +kernel
theorem e63_33 {d : Nat} {l0 l1 l2 l3 : Option Value} {s0 : Int32} {s1 : Int32} {s2 : Nat} {σ : ab_St} {Q : Option Value → ab_St → Prop} : Ev d 63 33 [l0, l1, l2, l3] [.int s0, .int s1, .ref s2] σ Q = ((ab_k s2 = 100 ∧ ab_in s1 (ab_n s2)) ∧ Ev d 63 34 [l0, l1, l2, l3] [] (ab_wI σ s2 (upd (σ.1 s2) s1.toNatClampNeg s0)) Q) := ev_Hc (c := ab_k s2 = 100 ∧ ab_in s1 (ab_n s2)) d63_33 rfl rfl rfl rfl rfl rfl rfl rfl
theorem d63_34 : decode (ab_C 63) 34 = .ok (.aload_n 0, 1) := by decide +kernel
theorem e63_34 {d : Nat} {l1 l2 l3 : Option Value} {x : Nat} {σ : ab_St} {Q : Option Value → ab_St → Prop} : Ev d 63 34 [some (.ref x), l1, l2, l3] [] σ Q = Ev d 63 35 [some (.ref x), l1, l2, l3] [.ref x] σ Q := ev_A1 d63_34 rfl
theorem d63_35 : decode (ab_C 63) 35 = .ok (.getfield 28, 3) := by decide +kernel
theorem e63_35 {d : Nat} {l0 l1 l2 l3 : Option Value} {s0 : Nat} {σ : ab_St} {Q : Option Value → ab_St → Prop} : Ev d 63 35 [l0, l1, l2, l3] [.ref s0] σ Q = (ab_k s0 = 6 ∧ Ev d 63 38 [l0, l1, l2, l3] [.ref (ab_r s0 4)] σ Q) := ev_Hc (c := ab_k s0 = 6) d63_35 rfl rfl rfl rfl rfl rfl rfl rfl
theorem d63_38 : decode (ab_C 63) 38 = .ok (.aload_n 2, 1) := by decide +kernel
theorem e63_38 {d : Nat} {l0 l1 l3 : Option Value} {x : Nat} {s0 : Nat} {σ : ab_St} {Q : Option Value → ab_St → Prop} : Ev d 63 38 [l0, l1, some (.ref x), l3] [.ref s0] σ Q = Ev d 63 39 [l0, l1, some (.ref x), l3] [.ref x, .ref s0] σ Q := ev_A1 d63_38 rfl
theorem d63_39 : decode (ab_C 63) 39 = .ok (.getfield 46, 3) := by decide +kernel
theorem e63_39 {d : Nat} {l0 l1 l2 l3 : Option Value} {s0 : Nat} {s1 : Nat} {σ : ab_St} {Q : Option Value → ab_St → Prop} : Ev d 63 39 [l0, l1, l2, l3] [.ref s0, .ref s1] σ Q = (ab_k s0 = 4 ∧ Ev d 63 42 [l0, l1, l2, l3] [.int (σ.1 s0 2), .ref s1] σ Q) := ev_Hc (c := ab_k s0 = 4) d63_39 rfl rfl rfl rfl rfl rfl rfl rfl
theorem d63_42 : decode (ab_C 63) 42 = .ok (.iconst 0, 1) := by decide +kernel
theorem e63_42 {d : Nat} {l0 l1 l2 l3 : Option Value} {s0 : Int32} {s1 : Nat} {σ : ab_St} {Q : Option Value → ab_St → Prop} : Ev d 63 42 [l0, l1, l2, l3] [.int s0, .ref s1] σ Q = Ev d 63 43 [l0, l1, l2, l3] [.int 0, .int s0, .ref s1] σ Q := ev_A1 d63_42 rfl
theorem d63_43 : decode (ab_C 63) 43 = .ok (.iastore, 1) := by decide +kernel
theorem e63_43 {d : Nat} {l0 l1 l2 l3 : Option Value} {s0 : Int32} {s1 : Int32} {s2 : Nat} {σ : ab_St} {Q : Option Value → ab_St → Prop} : Ev d 63 43 [l0, l1, l2, l3] [.int s0, .int s1, .ref s2] σ Q = ((ab_k s2 = 100 ∧ ab_in s1 (ab_n s2)) ∧ Ev d 63 44 [l0, l1, l2, l3] [] (ab_wI σ s2 (upd (σ.1 s2) s1.toNatClampNeg s0)) Q) := ev_Hc (c := ab_k s2 = 100 ∧ ab_in s1 (ab_n s2)) d63_43 rfl rfl rfl rfl rfl rfl rfl rfl
theorem d63_44 : decode (ab_C 63) 44 = .ok (.aload_n 2, 1) := by decide +kernel
theorem e63_44 {d : Nat} {l0 l1 l3 : Option Value} {x : Nat} {σ : ab_St} {Q : Option Value → ab_St → Prop} : Ev d 63 44 [l0, l1, some (.ref x), l3] [] σ Q = Ev d 63 45 [l0, l1, some (.ref x), l3] [.ref x] σ Q := ev_A1 d63_44 rfl
theorem d63_45 : decode (ab_C 63) 45 = .ok (.getfield 46, 3) := by decide +kernel
theorem e63_45 {d : Nat} {l0 l1 l2 l3 : Option Value} {s0 : Nat} {σ : ab_St} {Q : Option Value → ab_St → Prop} : Ev d 63 45 [l0, l1, l2, l3] [.ref s0] σ Q = (ab_k s0 = 4 ∧ Ev d 63 48 [l0, l1, l2, l3] [.int (σ.1 s0 2)] σ Q) := ev_Hc (c := ab_k s0 = 4) d63_45 rfl rfl rfl rfl rfl rfl rfl rfl
theorem d63_48 : decode (ab_C 63) 48 = .ok (.istore_n 3, 1) := by decide +kernel
theorem e63_48 {d : Nat} {l0 l1 l2 l3 : Option Value} {s0 : Int32} {σ : ab_St} {Q : Option Value → ab_St → Prop} : Ev d 63 48 [l0, l1, l2, l3] [.int s0] σ Q = Ev d 63 49 [l0, l1, l2, some (.int s0)] [] σ Q := ev_S d63_48 rfl rfl rfl rfl
theorem d63_49 : decode (ab_C 63) 49 = .ok (.iload_n 3, 1) := by decide +kernel
theorem e63_49 {d : Nat} {l0 l1 l2 : Option Value} {x : Int32} {σ : ab_St} {Q : Option Value → ab_St → Prop} : Ev d 63 49 [l0, l1, l2, some (.int x)] [] σ Q = Ev d 63 50 [l0, l1, l2, some (.int x)] [.int x] σ Q := ev_A1 d63_49 rfl
theorem d63_50 : decode (ab_C 63) 50 = .ok (.iconst 1, 1) := by decide +kernel
theorem e63_50 {d : Nat} {l0 l1 l2 l3 : Option Value} {s0 : Int32} {σ : ab_St} {Q : Option Value → ab_St → Prop} : Ev d 63 50 [l0, l1, l2, l3] [.int s0] σ Q = Ev d 63 51 [l0, l1, l2, l3] [.int 1, .int s0] σ Q := ev_A1 d63_50 rfl
theorem d63_51 : decode (ab_C 63) 51 = .ok (.aload_n 1, 1) := by decide +kernel
theorem e63_51 {d : Nat} {l0 l2 l3 : Option Value} {x : Nat} {s0 : Int32} {s1 : Int32} {σ : ab_St} {Q : Option Value → ab_St → Prop} : Ev d 63 51 [l0, some (.ref x), l2, l3] [.int s0, .int s1] σ Q = Ev d 63 52 [l0, some (.ref x), l2, l3] [.ref x, .int s0, .int s1] σ Q := ev_A1 d63_51 rfl
theorem d63_52 : decode (ab_C 63) 52 = .ok (.getfield 59, 3) := by decide +kernel
theorem e63_52 {d : Nat} {l0 l1 l2 l3 : Option Value} {s0 : Nat} {s1 : Int32} {s2 : Int32} {σ : ab_St} {Q : Option Value → ab_St → Prop} : Ev d 63 52 [l0, l1, l2, l3] [.ref s0, .int s1, .int s2] σ Q = (ab_k s0 = 3 ∧ Ev d 63 55 [l0, l1, l2, l3] [.int (σ.1 s0 5), .int s1, .int s2] σ Q) := ev_Hc (c := ab_k s0 = 3) d63_52 rfl rfl rfl rfl rfl rfl rfl rfl
theorem d63_55 : decode (ab_C 63) 55 = .ok (.ishl, 1) := by decide +kernel
theorem e63_55 {d : Nat} {l0 l1 l2 l3 : Option Value} {s0 : Int32} {s1 : Int32} {s2 : Int32} {σ : ab_St} {Q : Option Value → ab_St → Prop} : Ev d 63 55 [l0, l1, l2, l3] [.int s0, .int s1, .int s2] σ Q = Ev d 63 56 [l0, l1, l2, l3] [.int (s1 <<< (s0 &&& 31)), .int s2] σ Q := ev_A2 d63_55 rfl rfl
theorem d63_56 : decode (ab_C 63) 56 = .ok (.if_icmp .ge 37, 3) := by decide +kernel
theorem e63_56 {d : Nat} {l0 l1 l2 l3 : Option Value} {s0 : Int32} {s1 : Int32} {σ : ab_St} {Q : Option Value → ab_St → Prop} : Ev d 63 56 [l0, l1, l2, l3] [.int s0, .int s1] σ Q = if s0 ≤ s1 then Ev d 63 93 [l0, l1, l2, l3] [] σ Q else Ev d 63 59 [l0, l1, l2, l3] [] σ Q := ev_B (c := s0 ≤ s1) d63_56 rfl rfl rfl rfl rfl
theorem d63_59 : decode (ab_C 63) 59 = .ok (.aload_n 0, 1) := by decide +kernel
theorem e63_59 {d : Nat} {l1 l2 l3 : Option Value} {x : Nat} {σ : ab_St} {Q : Option Value → ab_St → Prop} : Ev d 63 59 [some (.ref x), l1, l2, l3] [] σ Q = Ev d 63 60 [some (.ref x), l1, l2, l3] [.ref x] σ Q := ev_A1 d63_59 rfl
theorem d63_60 : decode (ab_C 63) 60 = .ok (.getfield 18, 3) := by decide +kernel
theorem e63_60 {d : Nat} {l0 l1 l2 l3 : Option Value} {s0 : Nat} {σ : ab_St} {Q : Option Value → ab_St → Prop} : Ev d 63 60 [l0, l1, l2, l3] [.ref s0] σ Q = (ab_k s0 = 6 ∧ Ev d 63 63 [l0, l1, l2, l3] [.ref (ab_r s0 1)] σ Q) := ev_Hc (c := ab_k s0 = 6) d63_60 rfl rfl rfl rfl rfl rfl rfl rfl
theorem d63_63 : decode (ab_C 63) 63 = .ok (.iload_n 3, 1) := by decide +kernel
theorem e63_63 {d : Nat} {l0 l1 l2 : Option Value} {x : Int32} {s0 : Nat} {σ : ab_St} {Q : Option Value → ab_St → Prop} : Ev d 63 63 [l0, l1, l2, some (.int x)] [.ref s0] σ Q = Ev d 63 64 [l0, l1, l2, some (.int x)] [.int x, .ref s0] σ Q := ev_A1 d63_63 rfl
theorem d63_64 : decode (ab_C 63) 64 = .ok (.iaload, 1) := by decide +kernel
theorem e63_64 {d : Nat} {l0 l1 l2 l3 : Option Value} {s0 : Int32} {s1 : Nat} {σ : ab_St} {Q : Option Value → ab_St → Prop} : Ev d 63 64 [l0, l1, l2, l3] [.int s0, .ref s1] σ Q = ((ab_k s1 = 100 ∧ ab_in s0 (ab_n s1)) ∧ Ev d 63 65 [l0, l1, l2, l3] [.int (σ.1 s1 s0.toNatClampNeg)] σ Q) := ev_Hc (c := ab_k s1 = 100 ∧ ab_in s0 (ab_n s1)) d63_64 rfl rfl rfl rfl rfl rfl rfl rfl
theorem d63_65 : decode (ab_C 63) 65 = .ok (.ifCond .eq 22, 3) := by decide +kernel
theorem e63_65 {d : Nat} {l0 l1 l2 l3 : Option Value} {s0 : Int32} {σ : ab_St} {Q : Option Value → ab_St → Prop} : Ev d 63 65 [l0, l1, l2, l3] [.int s0] σ Q = if s0 = 0 then Ev d 63 87 [l0, l1, l2, l3] [] σ Q else Ev d 63 68 [l0, l1, l2, l3] [] σ Q := ev_B (c := s0 = 0) d63_65 rfl rfl rfl rfl rfl
theorem d63_68 : decode (ab_C 63) 68 = .ok (.aload_n 0, 1) := by decide +kernel
theorem e63_68 {d : Nat} {l1 l2 l3 : Option Value} {x : Nat} {σ : ab_St} {Q : Option Value → ab_St → Prop} : Ev d 63 68 [some (.ref x), l1, l2, l3] [] σ Q = Ev d 63 69 [some (.ref x), l1, l2, l3] [.ref x] σ Q := ev_A1 d63_68 rfl
theorem d63_69 : decode (ab_C 63) 69 = .ok (.getfield 22, 3) := by decide +kernel
theorem e63_69 {d : Nat} {l0 l1 l2 l3 : Option Value} {s0 : Nat} {σ : ab_St} {Q : Option Value → ab_St → Prop} : Ev d 63 69 [l0, l1, l2, l3] [.ref s0] σ Q = (ab_k s0 = 6 ∧ Ev d 63 72 [l0, l1, l2, l3] [.ref (ab_r s0 2)] σ Q) := ev_Hc (c := ab_k s0 = 6) d63_69 rfl rfl rfl rfl rfl rfl rfl rfl
theorem d63_72 : decode (ab_C 63) 72 = .ok (.iload_n 3, 1) := by decide +kernel
theorem e63_72 {d : Nat} {l0 l1 l2 : Option Value} {x : Int32} {s0 : Nat} {σ : ab_St} {Q : Option Value → ab_St → Prop} : Ev d 63 72 [l0, l1, l2, some (.int x)] [.ref s0] σ Q = Ev d 63 73 [l0, l1, l2, some (.int x)] [.int x, .ref s0] σ Q := ev_A1 d63_72 rfl
theorem d63_73 : decode (ab_C 63) 73 = .ok (.aload_n 0, 1) := by decide +kernel
theorem e63_73 {d : Nat} {l1 l2 l3 : Option Value} {x : Nat} {s0 : Int32} {s1 : Nat} {σ : ab_St} {Q : Option Value → ab_St → Prop} : Ev d 63 73 [some (.ref x), l1, l2, l3] [.int s0, .ref s1] σ Q = Ev d 63 74 [some (.ref x), l1, l2, l3] [.ref x, .int s0, .ref s1] σ Q := ev_A1 d63_73 rfl
theorem d63_74 : decode (ab_C 63) 74 = .ok (.aload_n 1, 1) := by decide +kernel
theorem e63_74 {d : Nat} {l0 l2 l3 : Option Value} {x : Nat} {s0 : Nat} {s1 : Int32} {s2 : Nat} {σ : ab_St} {Q : Option Value → ab_St → Prop} : Ev d 63 74 [l0, some (.ref x), l2, l3] [.ref s0, .int s1, .ref s2] σ Q = Ev d 63 75 [l0, some (.ref x), l2, l3] [.ref x, .ref s0, .int s1, .ref s2] σ Q := ev_A1 d63_74 rfl
theorem d63_75 : decode (ab_C 63) 75 = .ok (.aload_n 2, 1) := by decide +kernel
theorem e63_75 {d : Nat} {l0 l1 l3 : Option Value} {x : Nat} {s0 : Nat} {s1 : Nat} {s2 : Int32} {s3 : Nat} {σ : ab_St} {Q : Option Value → ab_St → Prop} : Ev d 63 75 [l0, l1, some (.ref x), l3] [.ref s0, .ref s1, .int s2, .ref s3] σ Q = Ev d 63 76 [l0, l1, some (.ref x), l3] [.ref x, .ref s0, .ref s1, .int s2, .ref s3] σ Q := ev_A1 d63_75 rfl
theorem d63_76 : decode (ab_C 63) 76 = .ok (.iload_n 3, 1) := by decide +kernel
theorem e63_76 {d : Nat} {l0 l1 l2 : Option Value} {x : Int32} {s0 : Nat} {s1 : Nat} {s2 : Nat} {s3 : Int32} {s4 : Nat} {σ : ab_St} {Q : Option Value → ab_St → Prop} : Ev d 63 76 [l0, l1, l2, some (.int x)] [.ref s0, .ref s1, .ref s2, .int s3, .ref s4] σ Q = Ev d 63 77 [l0, l1, l2, some (.int x)] [.int x, .ref s0, .ref s1, .ref s2, .int s3, .ref s4] σ Q := ev_A1 d63_76 rfl
theorem d63_77 : decode (ab_C 63) 77 = .ok (.invokevirtual 78, 3) := by decide +kernel
theorem e63_77 {d : Nat} {l0 l1 l2 l3 : Option Value} {s0 : Int32} {s1 : Nat} {s2 : Nat} {s3 : Nat} {s4 : Int32} {s5 : Nat} {σ : ab_St} {Q : Option Value → ab_St → Prop} : Ev (d + 1) 63 77 [l0, l1, l2, l3] [.int s0, .ref s1, .ref s2, .ref s3, .int s4, .ref s5] σ Q = (ab_k s3 = 6 ∧ Ev d 65 0 [some (.ref s3), some (.ref s2), some (.ref s1), some (.int s0), none, none, none, none, none] [] σ (fun r σ2 => Ev (d + 1) 63 80 [l0, l1, l2, l3] (r.toList ++ [.int s4, .ref s5]) σ2 Q)) := ev_KV (b := s3) (ls := [l0, l1, l2, l3]) (st := [.int s0, .ref s1, .ref s2, .ref s3, .int s4, .ref s5]) (as := [.ref s2, .ref s1, .int s0]) (rest := [.int s4, .ref s5]) d63_77 rfl rfl rfl (Nat.le_of_ble_eq_true rfl) (Nat.le_of_ble_eq_true rfl) (Nat.le_of_ble_eq_true rfl) rfl rfl rfl rfl rfl rfl rfl
theorem d63_80 : decode (ab_C 63) 80 = .ok (.iastore, 1) := by decide +kernel
theorem e63_80 {d : Nat} {l0 l1 l2 l3 : Option Value} {s0 : Int32} {s1 : Int32} {s2 : Nat} {σ : ab_St} {Q : Option Value → ab_St → Prop} : Ev d 63 80 [l0, l1, l2, l3] [.int s0, .int s1, .ref s2] σ Q = ((ab_k s2 = 100 ∧ ab_in s1 (ab_n s2)) ∧ Ev d 63 81 [l0, l1, l2, l3] [] (ab_wI σ s2 (upd (σ.1 s2) s1.toNatClampNeg s0)) Q) := ev_Hc (c := ab_k s2 = 100 ∧ ab_in s1 (ab_n s2)) d63_80 rfl rfl rfl rfl rfl rfl rfl rfl
theorem d63_81 : decode (ab_C 63) 81 = .ok (.aload_n 0, 1) := by decide +kernel
theorem e63_81 {d : Nat} {l1 l2 l3 : Option Value} {x : Nat} {σ : ab_St} {Q : Option Value → ab_St → Prop} : Ev d 63 81 [some (.ref x), l1, l2, l3] [] σ Q = Ev d 63 82 [some (.ref x), l1, l2, l3] [.ref x] σ Q := ev_A1 d63_81 rfl
theorem d63_82 : decode (ab_C 63) 82 = .ok (.aload_n 1, 1) := by decide +kernel
theorem e63_82 {d : Nat} {l0 l2 l3 : Option Value} {x : Nat} {s0 : Nat} {σ : ab_St} {Q : Option Value → ab_St → Prop} : Ev d 63 82 [l0, some (.ref x), l2, l3] [.ref s0] σ Q = Ev d 63 83 [l0, some (.ref x), l2, l3] [.ref x, .ref s0] σ Q := ev_A1 d63_82 rfl
theorem d63_83 : decode (ab_C 63) 83 = .ok (.iload_n 3, 1) := by decide +kernel
theorem e63_83 {d : Nat} {l0 l1 l2 : Option Value} {x : Int32} {s0 : Nat} {s1 : Nat} {σ : ab_St} {Q : Option Value → ab_St → Prop} : Ev d 63 83 [l0, l1, l2, some (.int x)] [.ref s0, .ref s1] σ Q = Ev d 63 84 [l0, l1, l2, some (.int x)] [.int x, .ref s0, .ref s1] σ Q := ev_A1 d63_83 rfl
theorem d63_84 : decode (ab_C 63) 84 = .ok (.invokevirtual 81, 3) := by decide +kernel
theorem e63_84 {d : Nat} {l0 l1 l2 l3 : Option Value} {s0 : Int32} {s1 : Nat} {s2 : Nat} {σ : ab_St} {Q : Option Value → ab_St → Prop} : Ev (d + 1) 63 84 [l0, l1, l2, l3] [.int s0, .ref s1, .ref s2] σ Q = (ab_k s2 = 6 ∧ Ev d 68 0 [some (.ref s2), some (.ref s1), some (.int s0), none, none] [] σ (fun r σ2 => Ev (d + 1) 63 87 [l0, l1, l2, l3] (r.toList ++ []) σ2 Q)) := ev_KV (b := s2) (ls := [l0, l1, l2, l3]) (st := [.int s0, .ref s1, .ref s2]) (as := [.ref s1, .int s0]) (rest := []) d63_84 rfl rfl rfl (Nat.le_of_ble_eq_true rfl) (Nat.le_of_ble_eq_true rfl) (Nat.le_of_ble_eq_true rfl) rfl rfl rfl rfl rfl rfl rfl
theorem d63_87 : decode (ab_C 63) 87 = .ok (.iinc 3 1, 3) := by decide +kernel
theorem e63_87 {d : Nat} {l0 l1 l2 : Option Value} {x : Int32} {σ : ab_St} {Q : Option Value → ab_St → Prop} : Ev d 63 87 [l0, l1, l2, some (.int x)] [] σ Q = Ev d 63 90 [l0, l1, l2, some (.int (x + 1))] [] σ Q := ev_S d63_87 rfl rfl rfl rfl
theorem d63_90 : decode (ab_C 63) 90 = .ok (.goto (-41), 3) := by decide +kernel
theorem e63_90 {d : Nat} {l0 l1 l2 l3 : Option Value} {σ : ab_St} {Q : Option Value → ab_St → Prop} : Ev d 63 90 [l0, l1, l2, l3] [] σ Q = Ev d 63 49 [l0, l1, l2, l3] [] σ Q := ev_J d63_90 rfl rfl rfl rfl rfl
theorem d63_93 : decode (ab_C 63) 93 = .ok (.return_, 1) := by decide +kernel
theorem e63_93 {d : Nat} {l0 l1 l2 l3 : Option Value} {σ : ab_St} {Q : Option Value → ab_St → Prop} : Ev d 63 93 [l0, l1, l2, l3] [] σ Q = Q none σ := ev_E d63_93 rfl rfl rfl rfl rfl rfl rfl
/-! SaidLeast$Orders.lastBit(I)I -/
theorem d64_0 : decode (ab_C 64) 0 = .ok (.iload_n 0, 1) := by decide +kernel
theorem e64_0 {d : Nat} {x : Int32} {σ : ab_St} {Q : Option Value → ab_St → Prop} : Ev d 64 0 [some (.int x)] [] σ Q = Ev d 64 1 [some (.int x)] [.int x] σ Q := ev_A1 d64_0 rfl
theorem d64_1 : decode (ab_C 64) 1 = .ok (.bipush (-9), 2) := by decide +kernel
theorem e64_1 {d : Nat} {l0 : Option Value} {s0 : Int32} {σ : ab_St} {Q : Option Value → ab_St → Prop} : Ev d 64 1 [l0] [.int s0] σ Q = Ev d 64 3 [l0] [.int (-9), .int s0] σ Q := ev_A1 d64_1 rfl
theorem d64_3 : decode (ab_C 64) 3 = .ok (.if_icmp .ne 9, 3) := by decide +kernel
theorem e64_3 {d : Nat} {l0 : Option Value} {s0 : Int32} {s1 : Int32} {σ : ab_St} {Q : Option Value → ab_St → Prop} : Ev d 64 3 [l0] [.int s0, .int s1] σ Q = if s1 = s0 then Ev d 64 6 [l0] [] σ Q else Ev d 64 12 [l0] [] σ Q := ev_B (c := s1 = s0) d64_3 rfl rfl rfl rfl rfl
theorem d64_6 : decode (ab_C 64) 6 = .ok (.sipush 256, 3) := by decide +kernel
theorem e64_6 {d : Nat} {l0 : Option Value} {σ : ab_St} {Q : Option Value → ab_St → Prop} : Ev d 64 6 [l0] [] σ Q = Ev d 64 9 [l0] [.int 256] σ Q := ev_A1 d64_6 rfl
theorem d64_9 : decode (ab_C 64) 9 = .ok (.goto 6, 3) := by decide +kernel
theorem e64_9 {d : Nat} {l0 : Option Value} {s0 : Int32} {σ : ab_St} {Q : Option Value → ab_St → Prop} : Ev d 64 9 [l0] [.int s0] σ Q = Ev d 64 15 [l0] [.int s0] σ Q := ev_J d64_9 rfl rfl rfl rfl rfl
theorem d64_12 : decode (ab_C 64) 12 = .ok (.iconst 1, 1) := by decide +kernel
theorem e64_12 {d : Nat} {l0 : Option Value} {σ : ab_St} {Q : Option Value → ab_St → Prop} : Ev d 64 12 [l0] [] σ Q = Ev d 64 13 [l0] [.int 1] σ Q := ev_A1 d64_12 rfl
theorem d64_13 : decode (ab_C 64) 13 = .ok (.iload_n 0, 1) := by decide +kernel
theorem e64_13 {d : Nat} {x : Int32} {s0 : Int32} {σ : ab_St} {Q : Option Value → ab_St → Prop} : Ev d 64 13 [some (.int x)] [.int s0] σ Q = Ev d 64 14 [some (.int x)] [.int x, .int s0] σ Q := ev_A1 d64_13 rfl
theorem d64_14 : decode (ab_C 64) 14 = .ok (.ishl, 1) := by decide +kernel
theorem e64_14 {d : Nat} {l0 : Option Value} {s0 : Int32} {s1 : Int32} {σ : ab_St} {Q : Option Value → ab_St → Prop} : Ev d 64 14 [l0] [.int s0, .int s1] σ Q = Ev d 64 15 [l0] [.int (s1 <<< (s0 &&& 31))] σ Q := ev_A2 d64_14 rfl rfl
theorem d64_15 : decode (ab_C 64) 15 = .ok (.ireturn, 1) := by decide +kernel
theorem e64_15 {d : Nat} {l0 : Option Value} {s0 : Int32} {σ : ab_St} {Q : Option Value → ab_St → Prop} : Ev d 64 15 [l0] [.int s0] σ Q = Q (some (.int s0)) σ := ev_E d64_15 rfl rfl rfl rfl rfl rfl rfl
/-! SaidLeast$Orders.openAt(LSaidLeast$Told;LSaidLeast$State;I)I -/
theorem d65_0 : decode (ab_C 65) 0 = .ok (.aload_n 0, 1) := by decide +kernel
theorem e65_0 {d : Nat} {l1 l2 l3 l4 l5 l6 l7 l8 : Option Value} {x : Nat} {σ : ab_St} {Q : Option Value → ab_St → Prop} : Ev d 65 0 [some (.ref x), l1, l2, l3, l4, l5, l6, l7, l8] [] σ Q = Ev d 65 1 [some (.ref x), l1, l2, l3, l4, l5, l6, l7, l8] [.ref x] σ Q := ev_A1 d65_0 rfl
theorem d65_1 : decode (ab_C 65) 1 = .ok (.getfield 12, 3) := by decide +kernel
theorem e65_1 {d : Nat} {l0 l1 l2 l3 l4 l5 l6 l7 l8 : Option Value} {s0 : Nat} {σ : ab_St} {Q : Option Value → ab_St → Prop} : Ev d 65 1 [l0, l1, l2, l3, l4, l5, l6, l7, l8] [.ref s0] σ Q = (ab_k s0 = 6 ∧ Ev d 65 4 [l0, l1, l2, l3, l4, l5, l6, l7, l8] [.ref (ab_r s0 0)] σ Q) := ev_Hc (c := ab_k s0 = 6) d65_1 rfl rfl rfl rfl rfl rfl rfl rfl
theorem d65_4 : decode (ab_C 65) 4 = .ok (.aload_n 1, 1) := by decide +kernel
theorem e65_4 {d : Nat} {l0 l2 l3 l4 l5 l6 l7 l8 : Option Value} {x : Nat} {s0 : Nat} {σ : ab_St} {Q : Option Value → ab_St → Prop} : Ev d 65 4 [l0, some (.ref x), l2, l3, l4, l5, l6, l7, l8] [.ref s0] σ Q = Ev d 65 5 [l0, some (.ref x), l2, l3, l4, l5, l6, l7, l8] [.ref x, .ref s0] σ Q := ev_A1 d65_4 rfl
theorem d65_5 : decode (ab_C 65) 5 = .ok (.aload_n 2, 1) := by decide +kernel
theorem e65_5 {d : Nat} {l0 l1 l3 l4 l5 l6 l7 l8 : Option Value} {x : Nat} {s0 : Nat} {s1 : Nat} {σ : ab_St} {Q : Option Value → ab_St → Prop} : Ev d 65 5 [l0, l1, some (.ref x), l3, l4, l5, l6, l7, l8] [.ref s0, .ref s1] σ Q = Ev d 65 6 [l0, l1, some (.ref x), l3, l4, l5, l6, l7, l8] [.ref x, .ref s0, .ref s1] σ Q := ev_A1 d65_5 rfl
theorem d65_6 : decode (ab_C 65) 6 = .ok (.iload_n 3, 1) := by decide +kernel
theorem e65_6 {d : Nat} {l0 l1 l2 l4 l5 l6 l7 l8 : Option Value} {x : Int32} {s0 : Nat} {s1 : Nat} {s2 : Nat} {σ : ab_St} {Q : Option Value → ab_St → Prop} : Ev d 65 6 [l0, l1, l2, some (.int x), l4, l5, l6, l7, l8] [.ref s0, .ref s1, .ref s2] σ Q = Ev d 65 7 [l0, l1, l2, some (.int x), l4, l5, l6, l7, l8] [.int x, .ref s0, .ref s1, .ref s2] σ Q := ev_A1 d65_6 rfl
theorem d65_7 : decode (ab_C 65) 7 = .ok (.invokevirtual 85, 3) := by decide +kernel
theorem e65_7 {d : Nat} {l0 l1 l2 l3 l4 l5 l6 l7 l8 : Option Value} {s0 : Int32} {s1 : Nat} {s2 : Nat} {s3 : Nat} {σ : ab_St} {Q : Option Value → ab_St → Prop} : Ev (d + 1) 65 7 [l0, l1, l2, l3, l4, l5, l6, l7, l8] [.int s0, .ref s1, .ref s2, .ref s3] σ Q = (ab_k s3 = 7 ∧ Ev d 66 0 [some (.ref s3), some (.ref s2), some (.ref s1), some (.int s0), none] [] σ (fun r σ2 => Ev (d + 1) 65 10 [l0, l1, l2, l3, l4, l5, l6, l7, l8] (r.toList ++ []) σ2 Q)) := ev_KV (b := s3) (ls := [l0, l1, l2, l3, l4, l5, l6, l7, l8]) (st := [.int s0, .ref s1, .ref s2, .ref s3]) (as := [.ref s2, .ref s1, .int s0]) (rest := []) d65_7 rfl rfl rfl (Nat.le_of_ble_eq_true rfl) (Nat.le_of_ble_eq_true rfl) (Nat.le_of_ble_eq_true rfl) rfl rfl rfl rfl rfl rfl rfl
theorem d65_10 : decode (ab_C 65) 10 = .ok (.istore 4, 2) := by decide +kernel
theorem e65_10 {d : Nat} {l0 l1 l2 l3 l4 l5 l6 l7 l8 : Option Value} {s0 : Int32} {σ : ab_St} {Q : Option Value → ab_St → Prop} : Ev d 65 10 [l0, l1, l2, l3, l4, l5, l6, l7, l8] [.int s0] σ Q = Ev d 65 12 [l0, l1, l2, l3, some (.int s0), l5, l6, l7, l8] [] σ Q := ev_S d65_10 rfl rfl rfl rfl
theorem d65_12 : decode (ab_C 65) 12 = .ok (.iconst 0, 1) := by decide +kernel
theorem e65_12 {d : Nat} {l0 l1 l2 l3 l4 l5 l6 l7 l8 : Option Value} {σ : ab_St} {Q : Option Value → ab_St → Prop} : Ev d 65 12 [l0, l1, l2, l3, l4, l5, l6, l7, l8] [] σ Q = Ev d 65 13 [l0, l1, l2, l3, l4, l5, l6, l7, l8] [.int 0] σ Q := ev_A1 d65_12 rfl
theorem d65_13 : decode (ab_C 65) 13 = .ok (.istore 5, 2) := by decide +kernel
theorem e65_13 {d : Nat} {l0 l1 l2 l3 l4 l5 l6 l7 l8 : Option Value} {s0 : Int32} {σ : ab_St} {Q : Option Value → ab_St → Prop} : Ev d 65 13 [l0, l1, l2, l3, l4, l5, l6, l7, l8] [.int s0] σ Q = Ev d 65 15 [l0, l1, l2, l3, l4, some (.int s0), l6, l7, l8] [] σ Q := ev_S d65_13 rfl rfl rfl rfl
theorem d65_15 : decode (ab_C 65) 15 = .ok (.iconst 0, 1) := by decide +kernel
theorem e65_15 {d : Nat} {l0 l1 l2 l3 l4 l5 l6 l7 l8 : Option Value} {σ : ab_St} {Q : Option Value → ab_St → Prop} : Ev d 65 15 [l0, l1, l2, l3, l4, l5, l6, l7, l8] [] σ Q = Ev d 65 16 [l0, l1, l2, l3, l4, l5, l6, l7, l8] [.int 0] σ Q := ev_A1 d65_15 rfl
theorem d65_16 : decode (ab_C 65) 16 = .ok (.istore 6, 2) := by decide +kernel
theorem e65_16 {d : Nat} {l0 l1 l2 l3 l4 l5 l6 l7 l8 : Option Value} {s0 : Int32} {σ : ab_St} {Q : Option Value → ab_St → Prop} : Ev d 65 16 [l0, l1, l2, l3, l4, l5, l6, l7, l8] [.int s0] σ Q = Ev d 65 18 [l0, l1, l2, l3, l4, l5, some (.int s0), l7, l8] [] σ Q := ev_S d65_16 rfl rfl rfl rfl
theorem d65_18 : decode (ab_C 65) 18 = .ok (.iload 6, 2) := by decide +kernel
theorem e65_18 {d : Nat} {l0 l1 l2 l3 l4 l5 l7 l8 : Option Value} {x : Int32} {σ : ab_St} {Q : Option Value → ab_St → Prop} : Ev d 65 18 [l0, l1, l2, l3, l4, l5, some (.int x), l7, l8] [] σ Q = Ev d 65 20 [l0, l1, l2, l3, l4, l5, some (.int x), l7, l8] [.int x] σ Q := ev_A1 d65_18 rfl
theorem d65_20 : decode (ab_C 65) 20 = .ok (.aload_n 1, 1) := by decide +kernel
theorem e65_20 {d : Nat} {l0 l2 l3 l4 l5 l6 l7 l8 : Option Value} {x : Nat} {s0 : Int32} {σ : ab_St} {Q : Option Value → ab_St → Prop} : Ev d 65 20 [l0, some (.ref x), l2, l3, l4, l5, l6, l7, l8] [.int s0] σ Q = Ev d 65 21 [l0, some (.ref x), l2, l3, l4, l5, l6, l7, l8] [.ref x, .int s0] σ Q := ev_A1 d65_20 rfl
theorem d65_21 : decode (ab_C 65) 21 = .ok (.getfield 59, 3) := by decide +kernel
theorem e65_21 {d : Nat} {l0 l1 l2 l3 l4 l5 l6 l7 l8 : Option Value} {s0 : Nat} {s1 : Int32} {σ : ab_St} {Q : Option Value → ab_St → Prop} : Ev d 65 21 [l0, l1, l2, l3, l4, l5, l6, l7, l8] [.ref s0, .int s1] σ Q = (ab_k s0 = 3 ∧ Ev d 65 24 [l0, l1, l2, l3, l4, l5, l6, l7, l8] [.int (σ.1 s0 5), .int s1] σ Q) := ev_Hc (c := ab_k s0 = 3) d65_21 rfl rfl rfl rfl rfl rfl rfl rfl
theorem d65_24 : decode (ab_C 65) 24 = .ok (.if_icmp .ge 97, 3) := by decide +kernel
theorem e65_24 {d : Nat} {l0 l1 l2 l3 l4 l5 l6 l7 l8 : Option Value} {s0 : Int32} {s1 : Int32} {σ : ab_St} {Q : Option Value → ab_St → Prop} : Ev d 65 24 [l0, l1, l2, l3, l4, l5, l6, l7, l8] [.int s0, .int s1] σ Q = if s0 ≤ s1 then Ev d 65 121 [l0, l1, l2, l3, l4, l5, l6, l7, l8] [] σ Q else Ev d 65 27 [l0, l1, l2, l3, l4, l5, l6, l7, l8] [] σ Q := ev_B (c := s0 ≤ s1) d65_24 rfl rfl rfl rfl rfl
theorem d65_27 : decode (ab_C 65) 27 = .ok (.aload_n 1, 1) := by decide +kernel
theorem e65_27 {d : Nat} {l0 l2 l3 l4 l5 l6 l7 l8 : Option Value} {x : Nat} {σ : ab_St} {Q : Option Value → ab_St → Prop} : Ev d 65 27 [l0, some (.ref x), l2, l3, l4, l5, l6, l7, l8] [] σ Q = Ev d 65 28 [l0, some (.ref x), l2, l3, l4, l5, l6, l7, l8] [.ref x] σ Q := ev_A1 d65_27 rfl
theorem d65_28 : decode (ab_C 65) 28 = .ok (.getfield 88, 3) := by decide +kernel
theorem e65_28 {d : Nat} {l0 l1 l2 l3 l4 l5 l6 l7 l8 : Option Value} {s0 : Nat} {σ : ab_St} {Q : Option Value → ab_St → Prop} : Ev d 65 28 [l0, l1, l2, l3, l4, l5, l6, l7, l8] [.ref s0] σ Q = (ab_k s0 = 3 ∧ Ev d 65 31 [l0, l1, l2, l3, l4, l5, l6, l7, l8] [.ref (ab_r s0 0)] σ Q) := ev_Hc (c := ab_k s0 = 3) d65_28 rfl rfl rfl rfl rfl rfl rfl rfl
theorem d65_31 : decode (ab_C 65) 31 = .ok (.iload 6, 2) := by decide +kernel
theorem e65_31 {d : Nat} {l0 l1 l2 l3 l4 l5 l7 l8 : Option Value} {x : Int32} {s0 : Nat} {σ : ab_St} {Q : Option Value → ab_St → Prop} : Ev d 65 31 [l0, l1, l2, l3, l4, l5, some (.int x), l7, l8] [.ref s0] σ Q = Ev d 65 33 [l0, l1, l2, l3, l4, l5, some (.int x), l7, l8] [.int x, .ref s0] σ Q := ev_A1 d65_31 rfl
theorem d65_33 : decode (ab_C 65) 33 = .ok (.iaload, 1) := by decide +kernel
theorem e65_33 {d : Nat} {l0 l1 l2 l3 l4 l5 l6 l7 l8 : Option Value} {s0 : Int32} {s1 : Nat} {σ : ab_St} {Q : Option Value → ab_St → Prop} : Ev d 65 33 [l0, l1, l2, l3, l4, l5, l6, l7, l8] [.int s0, .ref s1] σ Q = ((ab_k s1 = 100 ∧ ab_in s0 (ab_n s1)) ∧ Ev d 65 34 [l0, l1, l2, l3, l4, l5, l6, l7, l8] [.int (σ.1 s1 s0.toNatClampNeg)] σ Q) := ev_Hc (c := ab_k s1 = 100 ∧ ab_in s0 (ab_n s1)) d65_33 rfl rfl rfl rfl rfl rfl rfl rfl
theorem d65_34 : decode (ab_C 65) 34 = .ok (.istore 7, 2) := by decide +kernel
theorem e65_34 {d : Nat} {l0 l1 l2 l3 l4 l5 l6 l7 l8 : Option Value} {s0 : Int32} {σ : ab_St} {Q : Option Value → ab_St → Prop} : Ev d 65 34 [l0, l1, l2, l3, l4, l5, l6, l7, l8] [.int s0] σ Q = Ev d 65 36 [l0, l1, l2, l3, l4, l5, l6, some (.int s0), l8] [] σ Q := ev_S d65_34 rfl rfl rfl rfl
theorem d65_36 : decode (ab_C 65) 36 = .ok (.aload_n 1, 1) := by decide +kernel
theorem e65_36 {d : Nat} {l0 l2 l3 l4 l5 l6 l7 l8 : Option Value} {x : Nat} {σ : ab_St} {Q : Option Value → ab_St → Prop} : Ev d 65 36 [l0, some (.ref x), l2, l3, l4, l5, l6, l7, l8] [] σ Q = Ev d 65 37 [l0, some (.ref x), l2, l3, l4, l5, l6, l7, l8] [.ref x] σ Q := ev_A1 d65_36 rfl
theorem d65_37 : decode (ab_C 65) 37 = .ok (.getfield 91, 3) := by decide +kernel
theorem e65_37 {d : Nat} {l0 l1 l2 l3 l4 l5 l6 l7 l8 : Option Value} {s0 : Nat} {σ : ab_St} {Q : Option Value → ab_St → Prop} : Ev d 65 37 [l0, l1, l2, l3, l4, l5, l6, l7, l8] [.ref s0] σ Q = (ab_k s0 = 3 ∧ Ev d 65 40 [l0, l1, l2, l3, l4, l5, l6, l7, l8] [.ref (ab_r s0 3)] σ Q) := ev_Hc (c := ab_k s0 = 3) d65_37 rfl rfl rfl rfl rfl rfl rfl rfl
theorem d65_40 : decode (ab_C 65) 40 = .ok (.iload 6, 2) := by decide +kernel
theorem e65_40 {d : Nat} {l0 l1 l2 l3 l4 l5 l7 l8 : Option Value} {x : Int32} {s0 : Nat} {σ : ab_St} {Q : Option Value → ab_St → Prop} : Ev d 65 40 [l0, l1, l2, l3, l4, l5, some (.int x), l7, l8] [.ref s0] σ Q = Ev d 65 42 [l0, l1, l2, l3, l4, l5, some (.int x), l7, l8] [.int x, .ref s0] σ Q := ev_A1 d65_40 rfl
theorem d65_42 : decode (ab_C 65) 42 = .ok (.iaload, 1) := by decide +kernel
theorem e65_42 {d : Nat} {l0 l1 l2 l3 l4 l5 l6 l7 l8 : Option Value} {s0 : Int32} {s1 : Nat} {σ : ab_St} {Q : Option Value → ab_St → Prop} : Ev d 65 42 [l0, l1, l2, l3, l4, l5, l6, l7, l8] [.int s0, .ref s1] σ Q = ((ab_k s1 = 100 ∧ ab_in s0 (ab_n s1)) ∧ Ev d 65 43 [l0, l1, l2, l3, l4, l5, l6, l7, l8] [.int (σ.1 s1 s0.toNatClampNeg)] σ Q) := ev_Hc (c := ab_k s1 = 100 ∧ ab_in s0 (ab_n s1)) d65_42 rfl rfl rfl rfl rfl rfl rfl rfl
theorem d65_43 : decode (ab_C 65) 43 = .ok (.bipush (-9), 2) := by decide +kernel
theorem e65_43 {d : Nat} {l0 l1 l2 l3 l4 l5 l6 l7 l8 : Option Value} {s0 : Int32} {σ : ab_St} {Q : Option Value → ab_St → Prop} : Ev d 65 43 [l0, l1, l2, l3, l4, l5, l6, l7, l8] [.int s0] σ Q = Ev d 65 45 [l0, l1, l2, l3, l4, l5, l6, l7, l8] [.int (-9), .int s0] σ Q := ev_A1 d65_43 rfl
theorem d65_45 : decode (ab_C 65) 45 = .ok (.if_icmp .ne 13, 3) := by decide +kernel
theorem e65_45 {d : Nat} {l0 l1 l2 l3 l4 l5 l6 l7 l8 : Option Value} {s0 : Int32} {s1 : Int32} {σ : ab_St} {Q : Option Value → ab_St → Prop} : Ev d 65 45 [l0, l1, l2, l3, l4, l5, l6, l7, l8] [.int s0, .int s1] σ Q = if s1 = s0 then Ev d 65 48 [l0, l1, l2, l3, l4, l5, l6, l7, l8] [] σ Q else Ev d 65 58 [l0, l1, l2, l3, l4, l5, l6, l7, l8] [] σ Q := ev_B (c := s1 = s0) d65_45 rfl rfl rfl rfl rfl
theorem d65_48 : decode (ab_C 65) 48 = .ok (.iload 4, 2) := by decide +kernel
theorem e65_48 {d : Nat} {l0 l1 l2 l3 l5 l6 l7 l8 : Option Value} {x : Int32} {σ : ab_St} {Q : Option Value → ab_St → Prop} : Ev d 65 48 [l0, l1, l2, l3, some (.int x), l5, l6, l7, l8] [] σ Q = Ev d 65 50 [l0, l1, l2, l3, some (.int x), l5, l6, l7, l8] [.int x] σ Q := ev_A1 d65_48 rfl
theorem d65_50 : decode (ab_C 65) 50 = .ok (.iload 7, 2) := by decide +kernel
theorem e65_50 {d : Nat} {l0 l1 l2 l3 l4 l5 l6 l8 : Option Value} {x : Int32} {s0 : Int32} {σ : ab_St} {Q : Option Value → ab_St → Prop} : Ev d 65 50 [l0, l1, l2, l3, l4, l5, l6, some (.int x), l8] [.int s0] σ Q = Ev d 65 52 [l0, l1, l2, l3, l4, l5, l6, some (.int x), l8] [.int x, .int s0] σ Q := ev_A1 d65_50 rfl
theorem d65_52 : decode (ab_C 65) 52 = .ok (.invokestatic 64, 3) := by decide +kernel
theorem e65_52 {d : Nat} {l0 l1 l2 l3 l4 l5 l6 l7 l8 : Option Value} {s0 : Int32} {s1 : Int32} {σ : ab_St} {Q : Option Value → ab_St → Prop} : Ev (d + 1) 65 52 [l0, l1, l2, l3, l4, l5, l6, l7, l8] [.int s0, .int s1] σ Q = Ev d 32 0 [some (.int s1), some (.int s0)] [] σ (fun r σ2 => Ev (d + 1) 65 55 [l0, l1, l2, l3, l4, l5, l6, l7, l8] (r.toList ++ []) σ2 Q) := ev_K0 (y := 32) (ls := [l0, l1, l2, l3, l4, l5, l6, l7, l8]) (st := [.int s0, .int s1]) (as := [.int s1, .int s0]) (rest := []) d65_52 rfl rfl rfl rfl rfl rfl rfl rfl
theorem d65_55 : decode (ab_C 65) 55 = .ok (.goto 35, 3) := by decide +kernel
theorem e65_55 {d : Nat} {l0 l1 l2 l3 l4 l5 l6 l7 l8 : Option Value} {s0 : Int32} {σ : ab_St} {Q : Option Value → ab_St → Prop} : Ev d 65 55 [l0, l1, l2, l3, l4, l5, l6, l7, l8] [.int s0] σ Q = Ev d 65 90 [l0, l1, l2, l3, l4, l5, l6, l7, l8] [.int s0] σ Q := ev_J d65_55 rfl rfl rfl rfl rfl
theorem d65_58 : decode (ab_C 65) 58 = .ok (.aload_n 2, 1) := by decide +kernel
theorem e65_58 {d : Nat} {l0 l1 l3 l4 l5 l6 l7 l8 : Option Value} {x : Nat} {σ : ab_St} {Q : Option Value → ab_St → Prop} : Ev d 65 58 [l0, l1, some (.ref x), l3, l4, l5, l6, l7, l8] [] σ Q = Ev d 65 59 [l0, l1, some (.ref x), l3, l4, l5, l6, l7, l8] [.ref x] σ Q := ev_A1 d65_58 rfl
theorem d65_59 : decode (ab_C 65) 59 = .ok (.getfield 94, 3) := by decide +kernel
theorem e65_59 {d : Nat} {l0 l1 l2 l3 l4 l5 l6 l7 l8 : Option Value} {s0 : Nat} {σ : ab_St} {Q : Option Value → ab_St → Prop} : Ev d 65 59 [l0, l1, l2, l3, l4, l5, l6, l7, l8] [.ref s0] σ Q = (ab_k s0 = 4 ∧ Ev d 65 62 [l0, l1, l2, l3, l4, l5, l6, l7, l8] [.int (σ.1 s0 1)] σ Q) := ev_Hc (c := ab_k s0 = 4) d65_59 rfl rfl rfl rfl rfl rfl rfl rfl
theorem d65_62 : decode (ab_C 65) 62 = .ok (.iload 7, 2) := by decide +kernel
theorem e65_62 {d : Nat} {l0 l1 l2 l3 l4 l5 l6 l8 : Option Value} {x : Int32} {s0 : Int32} {σ : ab_St} {Q : Option Value → ab_St → Prop} : Ev d 65 62 [l0, l1, l2, l3, l4, l5, l6, some (.int x), l8] [.int s0] σ Q = Ev d 65 64 [l0, l1, l2, l3, l4, l5, l6, some (.int x), l8] [.int x, .int s0] σ Q := ev_A1 d65_62 rfl
theorem d65_64 : decode (ab_C 65) 64 = .ok (.invokestatic 64, 3) := by decide +kernel
theorem e65_64 {d : Nat} {l0 l1 l2 l3 l4 l5 l6 l7 l8 : Option Value} {s0 : Int32} {s1 : Int32} {σ : ab_St} {Q : Option Value → ab_St → Prop} : Ev (d + 1) 65 64 [l0, l1, l2, l3, l4, l5, l6, l7, l8] [.int s0, .int s1] σ Q = Ev d 32 0 [some (.int s1), some (.int s0)] [] σ (fun r σ2 => Ev (d + 1) 65 67 [l0, l1, l2, l3, l4, l5, l6, l7, l8] (r.toList ++ []) σ2 Q) := ev_K0 (y := 32) (ls := [l0, l1, l2, l3, l4, l5, l6, l7, l8]) (st := [.int s0, .int s1]) (as := [.int s1, .int s0]) (rest := []) d65_64 rfl rfl rfl rfl rfl rfl rfl rfl
theorem d65_67 : decode (ab_C 65) 67 = .ok (.ifCond .eq 22, 3) := by decide +kernel
theorem e65_67 {d : Nat} {l0 l1 l2 l3 l4 l5 l6 l7 l8 : Option Value} {s0 : Int32} {σ : ab_St} {Q : Option Value → ab_St → Prop} : Ev d 65 67 [l0, l1, l2, l3, l4, l5, l6, l7, l8] [.int s0] σ Q = if s0 = 0 then Ev d 65 89 [l0, l1, l2, l3, l4, l5, l6, l7, l8] [] σ Q else Ev d 65 70 [l0, l1, l2, l3, l4, l5, l6, l7, l8] [] σ Q := ev_B (c := s0 = 0) d65_67 rfl rfl rfl rfl rfl
theorem d65_70 : decode (ab_C 65) 70 = .ok (.aload_n 1, 1) := by decide +kernel
theorem e65_70 {d : Nat} {l0 l2 l3 l4 l5 l6 l7 l8 : Option Value} {x : Nat} {σ : ab_St} {Q : Option Value → ab_St → Prop} : Ev d 65 70 [l0, some (.ref x), l2, l3, l4, l5, l6, l7, l8] [] σ Q = Ev d 65 71 [l0, some (.ref x), l2, l3, l4, l5, l6, l7, l8] [.ref x] σ Q := ev_A1 d65_70 rfl
theorem d65_71 : decode (ab_C 65) 71 = .ok (.iload 6, 2) := by decide +kernel
theorem e65_71 {d : Nat} {l0 l1 l2 l3 l4 l5 l7 l8 : Option Value} {x : Int32} {s0 : Nat} {σ : ab_St} {Q : Option Value → ab_St → Prop} : Ev d 65 71 [l0, l1, l2, l3, l4, l5, some (.int x), l7, l8] [.ref s0] σ Q = Ev d 65 73 [l0, l1, l2, l3, l4, l5, some (.int x), l7, l8] [.int x, .ref s0] σ Q := ev_A1 d65_71 rfl
theorem d65_73 : decode (ab_C 65) 73 = .ok (.aload_n 0, 1) := by decide +kernel
theorem e65_73 {d : Nat} {l1 l2 l3 l4 l5 l6 l7 l8 : Option Value} {x : Nat} {s0 : Int32} {s1 : Nat} {σ : ab_St} {Q : Option Value → ab_St → Prop} : Ev d 65 73 [some (.ref x), l1, l2, l3, l4, l5, l6, l7, l8] [.int s0, .ref s1] σ Q = Ev d 65 74 [some (.ref x), l1, l2, l3, l4, l5, l6, l7, l8] [.ref x, .int s0, .ref s1] σ Q := ev_A1 d65_73 rfl
theorem d65_74 : decode (ab_C 65) 74 = .ok (.getfield 18, 3) := by decide +kernel
theorem e65_74 {d : Nat} {l0 l1 l2 l3 l4 l5 l6 l7 l8 : Option Value} {s0 : Nat} {s1 : Int32} {s2 : Nat} {σ : ab_St} {Q : Option Value → ab_St → Prop} : Ev d 65 74 [l0, l1, l2, l3, l4, l5, l6, l7, l8] [.ref s0, .int s1, .ref s2] σ Q = (ab_k s0 = 6 ∧ Ev d 65 77 [l0, l1, l2, l3, l4, l5, l6, l7, l8] [.ref (ab_r s0 1), .int s1, .ref s2] σ Q) := ev_Hc (c := ab_k s0 = 6) d65_74 rfl rfl rfl rfl rfl rfl rfl rfl
theorem d65_77 : decode (ab_C 65) 77 = .ok (.iload_n 3, 1) := by decide +kernel
theorem e65_77 {d : Nat} {l0 l1 l2 l4 l5 l6 l7 l8 : Option Value} {x : Int32} {s0 : Nat} {s1 : Int32} {s2 : Nat} {σ : ab_St} {Q : Option Value → ab_St → Prop} : Ev d 65 77 [l0, l1, l2, some (.int x), l4, l5, l6, l7, l8] [.ref s0, .int s1, .ref s2] σ Q = Ev d 65 78 [l0, l1, l2, some (.int x), l4, l5, l6, l7, l8] [.int x, .ref s0, .int s1, .ref s2] σ Q := ev_A1 d65_77 rfl
theorem d65_78 : decode (ab_C 65) 78 = .ok (.iaload, 1) := by decide +kernel
theorem e65_78 {d : Nat} {l0 l1 l2 l3 l4 l5 l6 l7 l8 : Option Value} {s0 : Int32} {s1 : Nat} {s2 : Int32} {s3 : Nat} {σ : ab_St} {Q : Option Value → ab_St → Prop} : Ev d 65 78 [l0, l1, l2, l3, l4, l5, l6, l7, l8] [.int s0, .ref s1, .int s2, .ref s3] σ Q = ((ab_k s1 = 100 ∧ ab_in s0 (ab_n s1)) ∧ Ev d 65 79 [l0, l1, l2, l3, l4, l5, l6, l7, l8] [.int (σ.1 s1 s0.toNatClampNeg), .int s2, .ref s3] σ Q) := ev_Hc (c := ab_k s1 = 100 ∧ ab_in s0 (ab_n s1)) d65_78 rfl rfl rfl rfl rfl rfl rfl rfl
theorem d65_79 : decode (ab_C 65) 79 = .ok (.invokestatic 97, 3) := by decide +kernel
theorem e65_79 {d : Nat} {l0 l1 l2 l3 l4 l5 l6 l7 l8 : Option Value} {s0 : Int32} {s1 : Int32} {s2 : Nat} {σ : ab_St} {Q : Option Value → ab_St → Prop} : Ev (d + 1) 65 79 [l0, l1, l2, l3, l4, l5, l6, l7, l8] [.int s0, .int s1, .ref s2] σ Q = Ev d 67 0 [some (.ref s2), some (.int s1), some (.int s0), none] [] σ (fun r σ2 => Ev (d + 1) 65 82 [l0, l1, l2, l3, l4, l5, l6, l7, l8] (r.toList ++ []) σ2 Q) := ev_K0 (y := 67) (ls := [l0, l1, l2, l3, l4, l5, l6, l7, l8]) (st := [.int s0, .int s1, .ref s2]) (as := [.ref s2, .int s1, .int s0]) (rest := []) d65_79 rfl rfl rfl rfl rfl rfl rfl rfl
theorem d65_82 : decode (ab_C 65) 82 = .ok (.ifCond .eq 7, 3) := by decide +kernel
theorem e65_82 {d : Nat} {l0 l1 l2 l3 l4 l5 l6 l7 l8 : Option Value} {s0 : Int32} {σ : ab_St} {Q : Option Value → ab_St → Prop} : Ev d 65 82 [l0, l1, l2, l3, l4, l5, l6, l7, l8] [.int s0] σ Q = if s0 = 0 then Ev d 65 89 [l0, l1, l2, l3, l4, l5, l6, l7, l8] [] σ Q else Ev d 65 85 [l0, l1, l2, l3, l4, l5, l6, l7, l8] [] σ Q := ev_B (c := s0 = 0) d65_82 rfl rfl rfl rfl rfl
theorem d65_85 : decode (ab_C 65) 85 = .ok (.iconst 1, 1) := by decide +kernel
theorem e65_85 {d : Nat} {l0 l1 l2 l3 l4 l5 l6 l7 l8 : Option Value} {σ : ab_St} {Q : Option Value → ab_St → Prop} : Ev d 65 85 [l0, l1, l2, l3, l4, l5, l6, l7, l8] [] σ Q = Ev d 65 86 [l0, l1, l2, l3, l4, l5, l6, l7, l8] [.int 1] σ Q := ev_A1 d65_85 rfl
theorem d65_86 : decode (ab_C 65) 86 = .ok (.goto 4, 3) := by decide +kernel
theorem e65_86 {d : Nat} {l0 l1 l2 l3 l4 l5 l6 l7 l8 : Option Value} {s0 : Int32} {σ : ab_St} {Q : Option Value → ab_St → Prop} : Ev d 65 86 [l0, l1, l2, l3, l4, l5, l6, l7, l8] [.int s0] σ Q = Ev d 65 90 [l0, l1, l2, l3, l4, l5, l6, l7, l8] [.int s0] σ Q := ev_J d65_86 rfl rfl rfl rfl rfl
theorem d65_89 : decode (ab_C 65) 89 = .ok (.iconst 0, 1) := by decide +kernel
theorem e65_89 {d : Nat} {l0 l1 l2 l3 l4 l5 l6 l7 l8 : Option Value} {σ : ab_St} {Q : Option Value → ab_St → Prop} : Ev d 65 89 [l0, l1, l2, l3, l4, l5, l6, l7, l8] [] σ Q = Ev d 65 90 [l0, l1, l2, l3, l4, l5, l6, l7, l8] [.int 0] σ Q := ev_A1 d65_89 rfl
theorem d65_90 : decode (ab_C 65) 90 = .ok (.istore 8, 2) := by decide +kernel
theorem e65_90 {d : Nat} {l0 l1 l2 l3 l4 l5 l6 l7 l8 : Option Value} {s0 : Int32} {σ : ab_St} {Q : Option Value → ab_St → Prop} : Ev d 65 90 [l0, l1, l2, l3, l4, l5, l6, l7, l8] [.int s0] σ Q = Ev d 65 92 [l0, l1, l2, l3, l4, l5, l6, l7, some (.int s0)] [] σ Q := ev_S d65_90 rfl rfl rfl rfl
theorem d65_92 : decode (ab_C 65) 92 = .ok (.iload 8, 2) := by decide +kernel
theorem e65_92 {d : Nat} {l0 l1 l2 l3 l4 l5 l6 l7 : Option Value} {x : Int32} {σ : ab_St} {Q : Option Value → ab_St → Prop} : Ev d 65 92 [l0, l1, l2, l3, l4, l5, l6, l7, some (.int x)] [] σ Q = Ev d 65 94 [l0, l1, l2, l3, l4, l5, l6, l7, some (.int x)] [.int x] σ Q := ev_A1 d65_92 rfl
theorem d65_94 : decode (ab_C 65) 94 = .ok (.ifCond .eq 21, 3) := by decide +kernel
theorem e65_94 {d : Nat} {l0 l1 l2 l3 l4 l5 l6 l7 l8 : Option Value} {s0 : Int32} {σ : ab_St} {Q : Option Value → ab_St → Prop} : Ev d 65 94 [l0, l1, l2, l3, l4, l5, l6, l7, l8] [.int s0] σ Q = if s0 = 0 then Ev d 65 115 [l0, l1, l2, l3, l4, l5, l6, l7, l8] [] σ Q else Ev d 65 97 [l0, l1, l2, l3, l4, l5, l6, l7, l8] [] σ Q := ev_B (c := s0 = 0) d65_94 rfl rfl rfl rfl rfl
theorem d65_97 : decode (ab_C 65) 97 = .ok (.iload_n 3, 1) := by decide +kernel
theorem e65_97 {d : Nat} {l0 l1 l2 l4 l5 l6 l7 l8 : Option Value} {x : Int32} {σ : ab_St} {Q : Option Value → ab_St → Prop} : Ev d 65 97 [l0, l1, l2, some (.int x), l4, l5, l6, l7, l8] [] σ Q = Ev d 65 98 [l0, l1, l2, some (.int x), l4, l5, l6, l7, l8] [.int x] σ Q := ev_A1 d65_97 rfl
theorem d65_98 : decode (ab_C 65) 98 = .ok (.iload 6, 2) := by decide +kernel
theorem e65_98 {d : Nat} {l0 l1 l2 l3 l4 l5 l7 l8 : Option Value} {x : Int32} {s0 : Int32} {σ : ab_St} {Q : Option Value → ab_St → Prop} : Ev d 65 98 [l0, l1, l2, l3, l4, l5, some (.int x), l7, l8] [.int s0] σ Q = Ev d 65 100 [l0, l1, l2, l3, l4, l5, some (.int x), l7, l8] [.int x, .int s0] σ Q := ev_A1 d65_98 rfl
theorem d65_100 : decode (ab_C 65) 100 = .ok (.invokestatic 64, 3) := by decide +kernel
theorem e65_100 {d : Nat} {l0 l1 l2 l3 l4 l5 l6 l7 l8 : Option Value} {s0 : Int32} {s1 : Int32} {σ : ab_St} {Q : Option Value → ab_St → Prop} : Ev (d + 1) 65 100 [l0, l1, l2, l3, l4, l5, l6, l7, l8] [.int s0, .int s1] σ Q = Ev d 32 0 [some (.int s1), some (.int s0)] [] σ (fun r σ2 => Ev (d + 1) 65 103 [l0, l1, l2, l3, l4, l5, l6, l7, l8] (r.toList ++ []) σ2 Q) := ev_K0 (y := 32) (ls := [l0, l1, l2, l3, l4, l5, l6, l7, l8]) (st := [.int s0, .int s1]) (as := [.int s1, .int s0]) (rest := []) d65_100 rfl rfl rfl rfl rfl rfl rfl rfl
theorem d65_103 : decode (ab_C 65) 103 = .ok (.ifCond .ne 12, 3) := by decide +kernel
theorem e65_103 {d : Nat} {l0 l1 l2 l3 l4 l5 l6 l7 l8 : Option Value} {s0 : Int32} {σ : ab_St} {Q : Option Value → ab_St → Prop} : Ev d 65 103 [l0, l1, l2, l3, l4, l5, l6, l7, l8] [.int s0] σ Q = if s0 = 0 then Ev d 65 106 [l0, l1, l2, l3, l4, l5, l6, l7, l8] [] σ Q else Ev d 65 115 [l0, l1, l2, l3, l4, l5, l6, l7, l8] [] σ Q := ev_B (c := s0 = 0) d65_103 rfl rfl rfl rfl rfl
theorem d65_106 : decode (ab_C 65) 106 = .ok (.iload 5, 2) := by decide +kernel
theorem e65_106 {d : Nat} {l0 l1 l2 l3 l4 l6 l7 l8 : Option Value} {x : Int32} {σ : ab_St} {Q : Option Value → ab_St → Prop} : Ev d 65 106 [l0, l1, l2, l3, l4, some (.int x), l6, l7, l8] [] σ Q = Ev d 65 108 [l0, l1, l2, l3, l4, some (.int x), l6, l7, l8] [.int x] σ Q := ev_A1 d65_106 rfl
theorem d65_108 : decode (ab_C 65) 108 = .ok (.iconst 1, 1) := by decide +kernel
theorem e65_108 {d : Nat} {l0 l1 l2 l3 l4 l5 l6 l7 l8 : Option Value} {s0 : Int32} {σ : ab_St} {Q : Option Value → ab_St → Prop} : Ev d 65 108 [l0, l1, l2, l3, l4, l5, l6, l7, l8] [.int s0] σ Q = Ev d 65 109 [l0, l1, l2, l3, l4, l5, l6, l7, l8] [.int 1, .int s0] σ Q := ev_A1 d65_108 rfl
theorem d65_109 : decode (ab_C 65) 109 = .ok (.iload 6, 2) := by decide +kernel
theorem e65_109 {d : Nat} {l0 l1 l2 l3 l4 l5 l7 l8 : Option Value} {x : Int32} {s0 : Int32} {s1 : Int32} {σ : ab_St} {Q : Option Value → ab_St → Prop} : Ev d 65 109 [l0, l1, l2, l3, l4, l5, some (.int x), l7, l8] [.int s0, .int s1] σ Q = Ev d 65 111 [l0, l1, l2, l3, l4, l5, some (.int x), l7, l8] [.int x, .int s0, .int s1] σ Q := ev_A1 d65_109 rfl
theorem d65_111 : decode (ab_C 65) 111 = .ok (.ishl, 1) := by decide +kernel
theorem e65_111 {d : Nat} {l0 l1 l2 l3 l4 l5 l6 l7 l8 : Option Value} {s0 : Int32} {s1 : Int32} {s2 : Int32} {σ : ab_St} {Q : Option Value → ab_St → Prop} : Ev d 65 111 [l0, l1, l2, l3, l4, l5, l6, l7, l8] [.int s0, .int s1, .int s2] σ Q = Ev d 65 112 [l0, l1, l2, l3, l4, l5, l6, l7, l8] [.int (s1 <<< (s0 &&& 31)), .int s2] σ Q := ev_A2 d65_111 rfl rfl
theorem d65_112 : decode (ab_C 65) 112 = .ok (.ior, 1) := by decide +kernel
theorem e65_112 {d : Nat} {l0 l1 l2 l3 l4 l5 l6 l7 l8 : Option Value} {s0 : Int32} {s1 : Int32} {σ : ab_St} {Q : Option Value → ab_St → Prop} : Ev d 65 112 [l0, l1, l2, l3, l4, l5, l6, l7, l8] [.int s0, .int s1] σ Q = Ev d 65 113 [l0, l1, l2, l3, l4, l5, l6, l7, l8] [.int (s1 ||| s0)] σ Q := ev_A2 d65_112 rfl rfl
theorem d65_113 : decode (ab_C 65) 113 = .ok (.istore 5, 2) := by decide +kernel
theorem e65_113 {d : Nat} {l0 l1 l2 l3 l4 l5 l6 l7 l8 : Option Value} {s0 : Int32} {σ : ab_St} {Q : Option Value → ab_St → Prop} : Ev d 65 113 [l0, l1, l2, l3, l4, l5, l6, l7, l8] [.int s0] σ Q = Ev d 65 115 [l0, l1, l2, l3, l4, some (.int s0), l6, l7, l8] [] σ Q := ev_S d65_113 rfl rfl rfl rfl
theorem d65_115 : decode (ab_C 65) 115 = .ok (.iinc 6 1, 3) := by decide +kernel
theorem e65_115 {d : Nat} {l0 l1 l2 l3 l4 l5 l7 l8 : Option Value} {x : Int32} {σ : ab_St} {Q : Option Value → ab_St → Prop} : Ev d 65 115 [l0, l1, l2, l3, l4, l5, some (.int x), l7, l8] [] σ Q = Ev d 65 118 [l0, l1, l2, l3, l4, l5, some (.int (x + 1)), l7, l8] [] σ Q := ev_S d65_115 rfl rfl rfl rfl
theorem d65_118 : decode (ab_C 65) 118 = .ok (.goto (-100), 3) := by decide +kernel
theorem e65_118 {d : Nat} {l0 l1 l2 l3 l4 l5 l6 l7 l8 : Option Value} {σ : ab_St} {Q : Option Value → ab_St → Prop} : Ev d 65 118 [l0, l1, l2, l3, l4, l5, l6, l7, l8] [] σ Q = Ev d 65 18 [l0, l1, l2, l3, l4, l5, l6, l7, l8] [] σ Q := ev_J d65_118 rfl rfl rfl rfl rfl
theorem d65_121 : decode (ab_C 65) 121 = .ok (.iload 5, 2) := by decide +kernel
theorem e65_121 {d : Nat} {l0 l1 l2 l3 l4 l6 l7 l8 : Option Value} {x : Int32} {σ : ab_St} {Q : Option Value → ab_St → Prop} : Ev d 65 121 [l0, l1, l2, l3, l4, some (.int x), l6, l7, l8] [] σ Q = Ev d 65 123 [l0, l1, l2, l3, l4, some (.int x), l6, l7, l8] [.int x] σ Q := ev_A1 d65_121 rfl
theorem d65_123 : decode (ab_C 65) 123 = .ok (.ireturn, 1) := by decide +kernel
theorem e65_123 {d : Nat} {l0 l1 l2 l3 l4 l5 l6 l7 l8 : Option Value} {s0 : Int32} {σ : ab_St} {Q : Option Value → ab_St → Prop} : Ev d 65 123 [l0, l1, l2, l3, l4, l5, l6, l7, l8] [.int s0] σ Q = Q (some (.int s0)) σ := ev_E d65_123 rfl rfl rfl rfl rfl rfl rfl
/-! SaidLeast$Ahead.leastAt(LSaidLeast$Told;LSaidLeast$State;I)I -/
theorem d66_0 : decode (ab_C 66) 0 = .ok (.aload_n 0, 1) := by decide +kernel
theorem e66_0 {d : Nat} {l1 l2 l3 l4 : Option Value} {x : Nat} {σ : ab_St} {Q : Option Value → ab_St → Prop} : Ev d 66 0 [some (.ref x), l1, l2, l3, l4] [] σ Q = Ev d 66 1 [some (.ref x), l1, l2, l3, l4] [.ref x] σ Q := ev_A1 d66_0 rfl
theorem d66_1 : decode (ab_C 66) 1 = .ok (.getfield 10, 3) := by decide +kernel
theorem e66_1 {d : Nat} {l0 l1 l2 l3 l4 : Option Value} {s0 : Nat} {σ : ab_St} {Q : Option Value → ab_St → Prop} : Ev d 66 1 [l0, l1, l2, l3, l4] [.ref s0] σ Q = (ab_k s0 = 7 ∧ Ev d 66 4 [l0, l1, l2, l3, l4] [.ref (ab_r s0 0)] σ Q) := ev_Hc (c := ab_k s0 = 7) d66_1 rfl rfl rfl rfl rfl rfl rfl rfl
theorem d66_4 : decode (ab_C 66) 4 = .ok (.aload_n 2, 1) := by decide +kernel
theorem e66_4 {d : Nat} {l0 l1 l3 l4 : Option Value} {x : Nat} {s0 : Nat} {σ : ab_St} {Q : Option Value → ab_St → Prop} : Ev d 66 4 [l0, l1, some (.ref x), l3, l4] [.ref s0] σ Q = Ev d 66 5 [l0, l1, some (.ref x), l3, l4] [.ref x, .ref s0] σ Q := ev_A1 d66_4 rfl
theorem d66_5 : decode (ab_C 66) 5 = .ok (.invokevirtual 16, 3) := by decide +kernel
theorem e66_5 {d : Nat} {l0 l1 l2 l3 l4 : Option Value} {s0 : Nat} {s1 : Nat} {σ : ab_St} {Q : Option Value → ab_St → Prop} : Ev (d + 1) 66 5 [l0, l1, l2, l3, l4] [.ref s0, .ref s1] σ Q = (ab_k s1 = 4 ∧ Ev d 35 0 [some (.ref s1), some (.ref s0)] [] σ (fun r σ2 => Ev (d + 1) 66 8 [l0, l1, l2, l3, l4] (r.toList ++ []) σ2 Q)) := ev_KV (b := s1) (ls := [l0, l1, l2, l3, l4]) (st := [.ref s0, .ref s1]) (as := [.ref s0]) (rest := []) d66_5 rfl rfl rfl (Nat.le_of_ble_eq_true rfl) (Nat.le_of_ble_eq_true rfl) (Nat.le_of_ble_eq_true rfl) rfl rfl rfl rfl rfl rfl rfl
theorem d66_8 : decode (ab_C 66) 8 = .ok (.iconst 0, 1) := by decide +kernel
theorem e66_8 {d : Nat} {l0 l1 l2 l3 l4 : Option Value} {σ : ab_St} {Q : Option Value → ab_St → Prop} : Ev d 66 8 [l0, l1, l2, l3, l4] [] σ Q = Ev d 66 9 [l0, l1, l2, l3, l4] [.int 0] σ Q := ev_A1 d66_8 rfl
theorem d66_9 : decode (ab_C 66) 9 = .ok (.istore 4, 2) := by decide +kernel
theorem e66_9 {d : Nat} {l0 l1 l2 l3 l4 : Option Value} {s0 : Int32} {σ : ab_St} {Q : Option Value → ab_St → Prop} : Ev d 66 9 [l0, l1, l2, l3, l4] [.int s0] σ Q = Ev d 66 11 [l0, l1, l2, l3, some (.int s0)] [] σ Q := ev_S d66_9 rfl rfl rfl rfl
theorem d66_11 : decode (ab_C 66) 11 = .ok (.iload 4, 2) := by decide +kernel
theorem e66_11 {d : Nat} {l0 l1 l2 l3 : Option Value} {x : Int32} {σ : ab_St} {Q : Option Value → ab_St → Prop} : Ev d 66 11 [l0, l1, l2, l3, some (.int x)] [] σ Q = Ev d 66 13 [l0, l1, l2, l3, some (.int x)] [.int x] σ Q := ev_A1 d66_11 rfl
theorem d66_13 : decode (ab_C 66) 13 = .ok (.aload_n 1, 1) := by decide +kernel
theorem e66_13 {d : Nat} {l0 l2 l3 l4 : Option Value} {x : Nat} {s0 : Int32} {σ : ab_St} {Q : Option Value → ab_St → Prop} : Ev d 66 13 [l0, some (.ref x), l2, l3, l4] [.int s0] σ Q = Ev d 66 14 [l0, some (.ref x), l2, l3, l4] [.ref x, .int s0] σ Q := ev_A1 d66_13 rfl
theorem d66_14 : decode (ab_C 66) 14 = .ok (.getfield 20, 3) := by decide +kernel
theorem e66_14 {d : Nat} {l0 l1 l2 l3 l4 : Option Value} {s0 : Nat} {s1 : Int32} {σ : ab_St} {Q : Option Value → ab_St → Prop} : Ev d 66 14 [l0, l1, l2, l3, l4] [.ref s0, .int s1] σ Q = (ab_k s0 = 3 ∧ Ev d 66 17 [l0, l1, l2, l3, l4] [.int (σ.1 s0 5), .int s1] σ Q) := ev_Hc (c := ab_k s0 = 3) d66_14 rfl rfl rfl rfl rfl rfl rfl rfl
theorem d66_17 : decode (ab_C 66) 17 = .ok (.if_icmp .ge 50, 3) := by decide +kernel
theorem e66_17 {d : Nat} {l0 l1 l2 l3 l4 : Option Value} {s0 : Int32} {s1 : Int32} {σ : ab_St} {Q : Option Value → ab_St → Prop} : Ev d 66 17 [l0, l1, l2, l3, l4] [.int s0, .int s1] σ Q = if s0 ≤ s1 then Ev d 66 67 [l0, l1, l2, l3, l4] [] σ Q else Ev d 66 20 [l0, l1, l2, l3, l4] [] σ Q := ev_B (c := s0 ≤ s1) d66_17 rfl rfl rfl rfl rfl
theorem d66_20 : decode (ab_C 66) 20 = .ok (.iload_n 3, 1) := by decide +kernel
theorem e66_20 {d : Nat} {l0 l1 l2 l4 : Option Value} {x : Int32} {σ : ab_St} {Q : Option Value → ab_St → Prop} : Ev d 66 20 [l0, l1, l2, some (.int x), l4] [] σ Q = Ev d 66 21 [l0, l1, l2, some (.int x), l4] [.int x] σ Q := ev_A1 d66_20 rfl
theorem d66_21 : decode (ab_C 66) 21 = .ok (.aload_n 2, 1) := by decide +kernel
theorem e66_21 {d : Nat} {l0 l1 l3 l4 : Option Value} {x : Nat} {s0 : Int32} {σ : ab_St} {Q : Option Value → ab_St → Prop} : Ev d 66 21 [l0, l1, some (.ref x), l3, l4] [.int s0] σ Q = Ev d 66 22 [l0, l1, some (.ref x), l3, l4] [.ref x, .int s0] σ Q := ev_A1 d66_21 rfl
theorem d66_22 : decode (ab_C 66) 22 = .ok (.getfield 26, 3) := by decide +kernel
theorem e66_22 {d : Nat} {l0 l1 l2 l3 l4 : Option Value} {s0 : Nat} {s1 : Int32} {σ : ab_St} {Q : Option Value → ab_St → Prop} : Ev d 66 22 [l0, l1, l2, l3, l4] [.ref s0, .int s1] σ Q = (ab_k s0 = 4 ∧ Ev d 66 25 [l0, l1, l2, l3, l4] [.int (σ.1 s0 2), .int s1] σ Q) := ev_Hc (c := ab_k s0 = 4) d66_22 rfl rfl rfl rfl rfl rfl rfl rfl
theorem d66_25 : decode (ab_C 66) 25 = .ok (.iconst (-1), 1) := by decide +kernel
theorem e66_25 {d : Nat} {l0 l1 l2 l3 l4 : Option Value} {s0 : Int32} {s1 : Int32} {σ : ab_St} {Q : Option Value → ab_St → Prop} : Ev d 66 25 [l0, l1, l2, l3, l4] [.int s0, .int s1] σ Q = Ev d 66 26 [l0, l1, l2, l3, l4] [.int (-1), .int s0, .int s1] σ Q := ev_A1 d66_25 rfl
theorem d66_26 : decode (ab_C 66) 26 = .ok (.ixor, 1) := by decide +kernel
theorem e66_26 {d : Nat} {l0 l1 l2 l3 l4 : Option Value} {s0 : Int32} {s1 : Int32} {s2 : Int32} {σ : ab_St} {Q : Option Value → ab_St → Prop} : Ev d 66 26 [l0, l1, l2, l3, l4] [.int s0, .int s1, .int s2] σ Q = Ev d 66 27 [l0, l1, l2, l3, l4] [.int (s1 ^^^ s0), .int s2] σ Q := ev_A2 d66_26 rfl rfl
theorem d66_27 : decode (ab_C 66) 27 = .ok (.iand, 1) := by decide +kernel
theorem e66_27 {d : Nat} {l0 l1 l2 l3 l4 : Option Value} {s0 : Int32} {s1 : Int32} {σ : ab_St} {Q : Option Value → ab_St → Prop} : Ev d 66 27 [l0, l1, l2, l3, l4] [.int s0, .int s1] σ Q = Ev d 66 28 [l0, l1, l2, l3, l4] [.int (s1 &&& s0)] σ Q := ev_A2 d66_27 rfl rfl
theorem d66_28 : decode (ab_C 66) 28 = .ok (.iload 4, 2) := by decide +kernel
theorem e66_28 {d : Nat} {l0 l1 l2 l3 : Option Value} {x : Int32} {s0 : Int32} {σ : ab_St} {Q : Option Value → ab_St → Prop} : Ev d 66 28 [l0, l1, l2, l3, some (.int x)] [.int s0] σ Q = Ev d 66 30 [l0, l1, l2, l3, some (.int x)] [.int x, .int s0] σ Q := ev_A1 d66_28 rfl
theorem d66_30 : decode (ab_C 66) 30 = .ok (.invokestatic 29, 3) := by decide +kernel
theorem e66_30 {d : Nat} {l0 l1 l2 l3 l4 : Option Value} {s0 : Int32} {s1 : Int32} {σ : ab_St} {Q : Option Value → ab_St → Prop} : Ev (d + 1) 66 30 [l0, l1, l2, l3, l4] [.int s0, .int s1] σ Q = Ev d 32 0 [some (.int s1), some (.int s0)] [] σ (fun r σ2 => Ev (d + 1) 66 33 [l0, l1, l2, l3, l4] (r.toList ++ []) σ2 Q) := ev_K0 (y := 32) (ls := [l0, l1, l2, l3, l4]) (st := [.int s0, .int s1]) (as := [.int s1, .int s0]) (rest := []) d66_30 rfl rfl rfl rfl rfl rfl rfl rfl
theorem d66_33 : decode (ab_C 66) 33 = .ok (.ifCond .eq 28, 3) := by decide +kernel
theorem e66_33 {d : Nat} {l0 l1 l2 l3 l4 : Option Value} {s0 : Int32} {σ : ab_St} {Q : Option Value → ab_St → Prop} : Ev d 66 33 [l0, l1, l2, l3, l4] [.int s0] σ Q = if s0 = 0 then Ev d 66 61 [l0, l1, l2, l3, l4] [] σ Q else Ev d 66 36 [l0, l1, l2, l3, l4] [] σ Q := ev_B (c := s0 = 0) d66_33 rfl rfl rfl rfl rfl
theorem d66_36 : decode (ab_C 66) 36 = .ok (.aload_n 0, 1) := by decide +kernel
theorem e66_36 {d : Nat} {l1 l2 l3 l4 : Option Value} {x : Nat} {σ : ab_St} {Q : Option Value → ab_St → Prop} : Ev d 66 36 [some (.ref x), l1, l2, l3, l4] [] σ Q = Ev d 66 37 [some (.ref x), l1, l2, l3, l4] [.ref x] σ Q := ev_A1 d66_36 rfl
theorem d66_37 : decode (ab_C 66) 37 = .ok (.getfield 10, 3) := by decide +kernel
theorem e66_37 {d : Nat} {l0 l1 l2 l3 l4 : Option Value} {s0 : Nat} {σ : ab_St} {Q : Option Value → ab_St → Prop} : Ev d 66 37 [l0, l1, l2, l3, l4] [.ref s0] σ Q = (ab_k s0 = 7 ∧ Ev d 66 40 [l0, l1, l2, l3, l4] [.ref (ab_r s0 0)] σ Q) := ev_Hc (c := ab_k s0 = 7) d66_37 rfl rfl rfl rfl rfl rfl rfl rfl
theorem d66_40 : decode (ab_C 66) 40 = .ok (.getfield 35, 3) := by decide +kernel
theorem e66_40 {d : Nat} {l0 l1 l2 l3 l4 : Option Value} {s0 : Nat} {σ : ab_St} {Q : Option Value → ab_St → Prop} : Ev d 66 40 [l0, l1, l2, l3, l4] [.ref s0] σ Q = (ab_k s0 = 4 ∧ Ev d 66 43 [l0, l1, l2, l3, l4] [.ref (ab_r s0 0)] σ Q) := ev_Hc (c := ab_k s0 = 4) d66_40 rfl rfl rfl rfl rfl rfl rfl rfl
theorem d66_43 : decode (ab_C 66) 43 = .ok (.aload_n 1, 1) := by decide +kernel
theorem e66_43 {d : Nat} {l0 l2 l3 l4 : Option Value} {x : Nat} {s0 : Nat} {σ : ab_St} {Q : Option Value → ab_St → Prop} : Ev d 66 43 [l0, some (.ref x), l2, l3, l4] [.ref s0] σ Q = Ev d 66 44 [l0, some (.ref x), l2, l3, l4] [.ref x, .ref s0] σ Q := ev_A1 d66_43 rfl
theorem d66_44 : decode (ab_C 66) 44 = .ok (.getfield 39, 3) := by decide +kernel
theorem e66_44 {d : Nat} {l0 l1 l2 l3 l4 : Option Value} {s0 : Nat} {s1 : Nat} {σ : ab_St} {Q : Option Value → ab_St → Prop} : Ev d 66 44 [l0, l1, l2, l3, l4] [.ref s0, .ref s1] σ Q = (ab_k s0 = 3 ∧ Ev d 66 47 [l0, l1, l2, l3, l4] [.ref (ab_r s0 0), .ref s1] σ Q) := ev_Hc (c := ab_k s0 = 3) d66_44 rfl rfl rfl rfl rfl rfl rfl rfl
theorem d66_47 : decode (ab_C 66) 47 = .ok (.iload 4, 2) := by decide +kernel
theorem e66_47 {d : Nat} {l0 l1 l2 l3 : Option Value} {x : Int32} {s0 : Nat} {s1 : Nat} {σ : ab_St} {Q : Option Value → ab_St → Prop} : Ev d 66 47 [l0, l1, l2, l3, some (.int x)] [.ref s0, .ref s1] σ Q = Ev d 66 49 [l0, l1, l2, l3, some (.int x)] [.int x, .ref s0, .ref s1] σ Q := ev_A1 d66_47 rfl
theorem d66_49 : decode (ab_C 66) 49 = .ok (.iaload, 1) := by decide +kernel
theorem e66_49 {d : Nat} {l0 l1 l2 l3 l4 : Option Value} {s0 : Int32} {s1 : Nat} {s2 : Nat} {σ : ab_St} {Q : Option Value → ab_St → Prop} : Ev d 66 49 [l0, l1, l2, l3, l4] [.int s0, .ref s1, .ref s2] σ Q = ((ab_k s1 = 100 ∧ ab_in s0 (ab_n s1)) ∧ Ev d 66 50 [l0, l1, l2, l3, l4] [.int (σ.1 s1 s0.toNatClampNeg), .ref s2] σ Q) := ev_Hc (c := ab_k s1 = 100 ∧ ab_in s0 (ab_n s1)) d66_49 rfl rfl rfl rfl rfl rfl rfl rfl
theorem d66_50 : decode (ab_C 66) 50 = .ok (.dup2, 1) := by decide +kernel
theorem e66_50 {d : Nat} {l0 l1 l2 l3 l4 : Option Value} {s0 : Int32} {s1 : Nat} {σ : ab_St} {Q : Option Value → ab_St → Prop} : Ev d 66 50 [l0, l1, l2, l3, l4] [.int s0, .ref s1] σ Q = Ev d 66 51 [l0, l1, l2, l3, l4] [.int s0, .ref s1, .int s0, .ref s1] σ Q := ev_A1 d66_50 rfl
theorem d66_51 : decode (ab_C 66) 51 = .ok (.iaload, 1) := by decide +kernel
theorem e66_51 {d : Nat} {l0 l1 l2 l3 l4 : Option Value} {s0 : Int32} {s1 : Nat} {s2 : Int32} {s3 : Nat} {σ : ab_St} {Q : Option Value → ab_St → Prop} : Ev d 66 51 [l0, l1, l2, l3, l4] [.int s0, .ref s1, .int s2, .ref s3] σ Q = ((ab_k s1 = 100 ∧ ab_in s0 (ab_n s1)) ∧ Ev d 66 52 [l0, l1, l2, l3, l4] [.int (σ.1 s1 s0.toNatClampNeg), .int s2, .ref s3] σ Q) := ev_Hc (c := ab_k s1 = 100 ∧ ab_in s0 (ab_n s1)) d66_51 rfl rfl rfl rfl rfl rfl rfl rfl
theorem d66_52 : decode (ab_C 66) 52 = .ok (.aload_n 1, 1) := by decide +kernel
theorem e66_52 {d : Nat} {l0 l2 l3 l4 : Option Value} {x : Nat} {s0 : Int32} {s1 : Int32} {s2 : Nat} {σ : ab_St} {Q : Option Value → ab_St → Prop} : Ev d 66 52 [l0, some (.ref x), l2, l3, l4] [.int s0, .int s1, .ref s2] σ Q = Ev d 66 53 [l0, some (.ref x), l2, l3, l4] [.ref x, .int s0, .int s1, .ref s2] σ Q := ev_A1 d66_52 rfl
theorem d66_53 : decode (ab_C 66) 53 = .ok (.getfield 42, 3) := by decide +kernel
theorem e66_53 {d : Nat} {l0 l1 l2 l3 l4 : Option Value} {s0 : Nat} {s1 : Int32} {s2 : Int32} {s3 : Nat} {σ : ab_St} {Q : Option Value → ab_St → Prop} : Ev d 66 53 [l0, l1, l2, l3, l4] [.ref s0, .int s1, .int s2, .ref s3] σ Q = (ab_k s0 = 3 ∧ Ev d 66 56 [l0, l1, l2, l3, l4] [.ref (ab_r s0 1), .int s1, .int s2, .ref s3] σ Q) := ev_Hc (c := ab_k s0 = 3) d66_53 rfl rfl rfl rfl rfl rfl rfl rfl
theorem d66_56 : decode (ab_C 66) 56 = .ok (.iload 4, 2) := by decide +kernel
theorem e66_56 {d : Nat} {l0 l1 l2 l3 : Option Value} {x : Int32} {s0 : Nat} {s1 : Int32} {s2 : Int32} {s3 : Nat} {σ : ab_St} {Q : Option Value → ab_St → Prop} : Ev d 66 56 [l0, l1, l2, l3, some (.int x)] [.ref s0, .int s1, .int s2, .ref s3] σ Q = Ev d 66 58 [l0, l1, l2, l3, some (.int x)] [.int x, .ref s0, .int s1, .int s2, .ref s3] σ Q := ev_A1 d66_56 rfl
theorem d66_58 : decode (ab_C 66) 58 = .ok (.iaload, 1) := by decide +kernel
theorem e66_58 {d : Nat} {l0 l1 l2 l3 l4 : Option Value} {s0 : Int32} {s1 : Nat} {s2 : Int32} {s3 : Int32} {s4 : Nat} {σ : ab_St} {Q : Option Value → ab_St → Prop} : Ev d 66 58 [l0, l1, l2, l3, l4] [.int s0, .ref s1, .int s2, .int s3, .ref s4] σ Q = ((ab_k s1 = 100 ∧ ab_in s0 (ab_n s1)) ∧ Ev d 66 59 [l0, l1, l2, l3, l4] [.int (σ.1 s1 s0.toNatClampNeg), .int s2, .int s3, .ref s4] σ Q) := ev_Hc (c := ab_k s1 = 100 ∧ ab_in s0 (ab_n s1)) d66_58 rfl rfl rfl rfl rfl rfl rfl rfl
theorem d66_59 : decode (ab_C 66) 59 = .ok (.iadd, 1) := by decide +kernel
theorem e66_59 {d : Nat} {l0 l1 l2 l3 l4 : Option Value} {s0 : Int32} {s1 : Int32} {s2 : Int32} {s3 : Nat} {σ : ab_St} {Q : Option Value → ab_St → Prop} : Ev d 66 59 [l0, l1, l2, l3, l4] [.int s0, .int s1, .int s2, .ref s3] σ Q = Ev d 66 60 [l0, l1, l2, l3, l4] [.int (s1 + s0), .int s2, .ref s3] σ Q := ev_A2 d66_59 rfl rfl
theorem d66_60 : decode (ab_C 66) 60 = .ok (.iastore, 1) := by decide +kernel
theorem e66_60 {d : Nat} {l0 l1 l2 l3 l4 : Option Value} {s0 : Int32} {s1 : Int32} {s2 : Nat} {σ : ab_St} {Q : Option Value → ab_St → Prop} : Ev d 66 60 [l0, l1, l2, l3, l4] [.int s0, .int s1, .ref s2] σ Q = ((ab_k s2 = 100 ∧ ab_in s1 (ab_n s2)) ∧ Ev d 66 61 [l0, l1, l2, l3, l4] [] (ab_wI σ s2 (upd (σ.1 s2) s1.toNatClampNeg s0)) Q) := ev_Hc (c := ab_k s2 = 100 ∧ ab_in s1 (ab_n s2)) d66_60 rfl rfl rfl rfl rfl rfl rfl rfl
theorem d66_61 : decode (ab_C 66) 61 = .ok (.iinc 4 1, 3) := by decide +kernel
theorem e66_61 {d : Nat} {l0 l1 l2 l3 : Option Value} {x : Int32} {σ : ab_St} {Q : Option Value → ab_St → Prop} : Ev d 66 61 [l0, l1, l2, l3, some (.int x)] [] σ Q = Ev d 66 64 [l0, l1, l2, l3, some (.int (x + 1))] [] σ Q := ev_S d66_61 rfl rfl rfl rfl
theorem d66_64 : decode (ab_C 66) 64 = .ok (.goto (-53), 3) := by decide +kernel
theorem e66_64 {d : Nat} {l0 l1 l2 l3 l4 : Option Value} {σ : ab_St} {Q : Option Value → ab_St → Prop} : Ev d 66 64 [l0, l1, l2, l3, l4] [] σ Q = Ev d 66 11 [l0, l1, l2, l3, l4] [] σ Q := ev_J d66_64 rfl rfl rfl rfl rfl
theorem d66_67 : decode (ab_C 66) 67 = .ok (.aload_n 0, 1) := by decide +kernel
theorem e66_67 {d : Nat} {l1 l2 l3 l4 : Option Value} {x : Nat} {σ : ab_St} {Q : Option Value → ab_St → Prop} : Ev d 66 67 [some (.ref x), l1, l2, l3, l4] [] σ Q = Ev d 66 68 [some (.ref x), l1, l2, l3, l4] [.ref x] σ Q := ev_A1 d66_67 rfl
theorem d66_68 : decode (ab_C 66) 68 = .ok (.getfield 10, 3) := by decide +kernel
theorem e66_68 {d : Nat} {l0 l1 l2 l3 l4 : Option Value} {s0 : Nat} {σ : ab_St} {Q : Option Value → ab_St → Prop} : Ev d 66 68 [l0, l1, l2, l3, l4] [.ref s0] σ Q = (ab_k s0 = 7 ∧ Ev d 66 71 [l0, l1, l2, l3, l4] [.ref (ab_r s0 0)] σ Q) := ev_Hc (c := ab_k s0 = 7) d66_68 rfl rfl rfl rfl rfl rfl rfl rfl
theorem d66_71 : decode (ab_C 66) 71 = .ok (.invokevirtual 43, 3) := by decide +kernel
theorem e66_71 {d : Nat} {l0 l1 l2 l3 l4 : Option Value} {s0 : Nat} {σ : ab_St} {Q : Option Value → ab_St → Prop} : Ev (d + 1) 66 71 [l0, l1, l2, l3, l4] [.ref s0] σ Q = (ab_k s0 = 4 ∧ Ev d 38 0 [some (.ref s0), none, none, none] [] σ (fun r σ2 => Ev (d + 1) 66 74 [l0, l1, l2, l3, l4] (r.toList ++ []) σ2 Q)) := ev_KV (b := s0) (ls := [l0, l1, l2, l3, l4]) (st := [.ref s0]) (as := []) (rest := []) d66_71 rfl rfl rfl (Nat.le_of_ble_eq_true rfl) (Nat.le_of_ble_eq_true rfl) (Nat.le_of_ble_eq_true rfl) rfl rfl rfl rfl rfl rfl rfl
theorem d66_74 : decode (ab_C 66) 74 = .ok (.ireturn, 1) := by decide +kernel
theorem e66_74 {d : Nat} {l0 l1 l2 l3 l4 : Option Value} {s0 : Int32} {σ : ab_St} {Q : Option Value → ab_St → Prop} : Ev d 66 74 [l0, l1, l2, l3, l4] [.int s0] σ Q = Q (some (.int s0)) σ := ev_E d66_74 rfl rfl rfl rfl rfl rfl rfl
/-! SaidLeast$Orders.canFollow(LSaidLeast$Told;II)Z -/
theorem d67_0 : decode (ab_C 67) 0 = .ok (.aload_n 0, 1) := by decide +kernel
theorem e67_0 {d : Nat} {l1 l2 l3 : Option Value} {x : Nat} {σ : ab_St} {Q : Option Value → ab_St → Prop} : Ev d 67 0 [some (.ref x), l1, l2, l3] [] σ Q = Ev d 67 1 [some (.ref x), l1, l2, l3] [.ref x] σ Q := ev_A1 d67_0 rfl
theorem d67_1 : decode (ab_C 67) 1 = .ok (.getfield 91, 3) := by decide +kernel
theorem e67_1 {d : Nat} {l0 l1 l2 l3 : Option Value} {s0 : Nat} {σ : ab_St} {Q : Option Value → ab_St → Prop} : Ev d 67 1 [l0, l1, l2, l3] [.ref s0] σ Q = (ab_k s0 = 3 ∧ Ev d 67 4 [l0, l1, l2, l3] [.ref (ab_r s0 3)] σ Q) := ev_Hc (c := ab_k s0 = 3) d67_1 rfl rfl rfl rfl rfl rfl rfl rfl
theorem d67_4 : decode (ab_C 67) 4 = .ok (.iload_n 1, 1) := by decide +kernel
theorem e67_4 {d : Nat} {l0 l2 l3 : Option Value} {x : Int32} {s0 : Nat} {σ : ab_St} {Q : Option Value → ab_St → Prop} : Ev d 67 4 [l0, some (.int x), l2, l3] [.ref s0] σ Q = Ev d 67 5 [l0, some (.int x), l2, l3] [.int x, .ref s0] σ Q := ev_A1 d67_4 rfl
theorem d67_5 : decode (ab_C 67) 5 = .ok (.iaload, 1) := by decide +kernel
theorem e67_5 {d : Nat} {l0 l1 l2 l3 : Option Value} {s0 : Int32} {s1 : Nat} {σ : ab_St} {Q : Option Value → ab_St → Prop} : Ev d 67 5 [l0, l1, l2, l3] [.int s0, .ref s1] σ Q = ((ab_k s1 = 100 ∧ ab_in s0 (ab_n s1)) ∧ Ev d 67 6 [l0, l1, l2, l3] [.int (σ.1 s1 s0.toNatClampNeg)] σ Q) := ev_Hc (c := ab_k s1 = 100 ∧ ab_in s0 (ab_n s1)) d67_5 rfl rfl rfl rfl rfl rfl rfl rfl
theorem d67_6 : decode (ab_C 67) 6 = .ok (.istore_n 3, 1) := by decide +kernel
theorem e67_6 {d : Nat} {l0 l1 l2 l3 : Option Value} {s0 : Int32} {σ : ab_St} {Q : Option Value → ab_St → Prop} : Ev d 67 6 [l0, l1, l2, l3] [.int s0] σ Q = Ev d 67 7 [l0, l1, l2, some (.int s0)] [] σ Q := ev_S d67_6 rfl rfl rfl rfl
theorem d67_7 : decode (ab_C 67) 7 = .ok (.iload_n 3, 1) := by decide +kernel
theorem e67_7 {d : Nat} {l0 l1 l2 : Option Value} {x : Int32} {σ : ab_St} {Q : Option Value → ab_St → Prop} : Ev d 67 7 [l0, l1, l2, some (.int x)] [] σ Q = Ev d 67 8 [l0, l1, l2, some (.int x)] [.int x] σ Q := ev_A1 d67_7 rfl
theorem d67_8 : decode (ab_C 67) 8 = .ok (.bipush (-9), 2) := by decide +kernel
theorem e67_8 {d : Nat} {l0 l1 l2 l3 : Option Value} {s0 : Int32} {σ : ab_St} {Q : Option Value → ab_St → Prop} : Ev d 67 8 [l0, l1, l2, l3] [.int s0] σ Q = Ev d 67 10 [l0, l1, l2, l3] [.int (-9), .int s0] σ Q := ev_A1 d67_8 rfl
theorem d67_10 : decode (ab_C 67) 10 = .ok (.if_icmp .eq 11, 3) := by decide +kernel
theorem e67_10 {d : Nat} {l0 l1 l2 l3 : Option Value} {s0 : Int32} {s1 : Int32} {σ : ab_St} {Q : Option Value → ab_St → Prop} : Ev d 67 10 [l0, l1, l2, l3] [.int s0, .int s1] σ Q = if s1 = s0 then Ev d 67 21 [l0, l1, l2, l3] [] σ Q else Ev d 67 13 [l0, l1, l2, l3] [] σ Q := ev_B (c := s1 = s0) d67_10 rfl rfl rfl rfl rfl
theorem d67_13 : decode (ab_C 67) 13 = .ok (.iload_n 2, 1) := by decide +kernel
theorem e67_13 {d : Nat} {l0 l1 l3 : Option Value} {x : Int32} {σ : ab_St} {Q : Option Value → ab_St → Prop} : Ev d 67 13 [l0, l1, some (.int x), l3] [] σ Q = Ev d 67 14 [l0, l1, some (.int x), l3] [.int x] σ Q := ev_A1 d67_13 rfl
theorem d67_14 : decode (ab_C 67) 14 = .ok (.iload_n 3, 1) := by decide +kernel
theorem e67_14 {d : Nat} {l0 l1 l2 : Option Value} {x : Int32} {s0 : Int32} {σ : ab_St} {Q : Option Value → ab_St → Prop} : Ev d 67 14 [l0, l1, l2, some (.int x)] [.int s0] σ Q = Ev d 67 15 [l0, l1, l2, some (.int x)] [.int x, .int s0] σ Q := ev_A1 d67_14 rfl
theorem d67_15 : decode (ab_C 67) 15 = .ok (.invokestatic 64, 3) := by decide +kernel
theorem e67_15 {d : Nat} {l0 l1 l2 l3 : Option Value} {s0 : Int32} {s1 : Int32} {σ : ab_St} {Q : Option Value → ab_St → Prop} : Ev (d + 1) 67 15 [l0, l1, l2, l3] [.int s0, .int s1] σ Q = Ev d 32 0 [some (.int s1), some (.int s0)] [] σ (fun r σ2 => Ev (d + 1) 67 18 [l0, l1, l2, l3] (r.toList ++ []) σ2 Q) := ev_K0 (y := 32) (ls := [l0, l1, l2, l3]) (st := [.int s0, .int s1]) (as := [.int s1, .int s0]) (rest := []) d67_15 rfl rfl rfl rfl rfl rfl rfl rfl
theorem d67_18 : decode (ab_C 67) 18 = .ok (.ifCond .eq 7, 3) := by decide +kernel
theorem e67_18 {d : Nat} {l0 l1 l2 l3 : Option Value} {s0 : Int32} {σ : ab_St} {Q : Option Value → ab_St → Prop} : Ev d 67 18 [l0, l1, l2, l3] [.int s0] σ Q = if s0 = 0 then Ev d 67 25 [l0, l1, l2, l3] [] σ Q else Ev d 67 21 [l0, l1, l2, l3] [] σ Q := ev_B (c := s0 = 0) d67_18 rfl rfl rfl rfl rfl
theorem d67_21 : decode (ab_C 67) 21 = .ok (.iconst 1, 1) := by decide +kernel
theorem e67_21 {d : Nat} {l0 l1 l2 l3 : Option Value} {σ : ab_St} {Q : Option Value → ab_St → Prop} : Ev d 67 21 [l0, l1, l2, l3] [] σ Q = Ev d 67 22 [l0, l1, l2, l3] [.int 1] σ Q := ev_A1 d67_21 rfl
theorem d67_22 : decode (ab_C 67) 22 = .ok (.goto 4, 3) := by decide +kernel
theorem e67_22 {d : Nat} {l0 l1 l2 l3 : Option Value} {s0 : Int32} {σ : ab_St} {Q : Option Value → ab_St → Prop} : Ev d 67 22 [l0, l1, l2, l3] [.int s0] σ Q = Ev d 67 26 [l0, l1, l2, l3] [.int s0] σ Q := ev_J d67_22 rfl rfl rfl rfl rfl
theorem d67_25 : decode (ab_C 67) 25 = .ok (.iconst 0, 1) := by decide +kernel
theorem e67_25 {d : Nat} {l0 l1 l2 l3 : Option Value} {σ : ab_St} {Q : Option Value → ab_St → Prop} : Ev d 67 25 [l0, l1, l2, l3] [] σ Q = Ev d 67 26 [l0, l1, l2, l3] [.int 0] σ Q := ev_A1 d67_25 rfl
theorem d67_26 : decode (ab_C 67) 26 = .ok (.ireturn, 1) := by decide +kernel
theorem e67_26 {d : Nat} {l0 l1 l2 l3 : Option Value} {s0 : Int32} {σ : ab_St} {Q : Option Value → ab_St → Prop} : Ev d 67 26 [l0, l1, l2, l3] [.int s0] σ Q = ((s0 = 0 ∨ s0 = 1) ∧ Q (some (.int s0)) σ) := ev_Z d67_26 rfl
/-! SaidLeast$Orders.goOnFrom(LSaidLeast$Told;I)V -/
theorem d68_0 : decode (ab_C 68) 0 = .ok (.iconst 0, 1) := by decide +kernel
theorem e68_0 {d : Nat} {l0 l1 l2 l3 l4 : Option Value} {σ : ab_St} {Q : Option Value → ab_St → Prop} : Ev d 68 0 [l0, l1, l2, l3, l4] [] σ Q = Ev d 68 1 [l0, l1, l2, l3, l4] [.int 0] σ Q := ev_A1 d68_0 rfl
theorem d68_1 : decode (ab_C 68) 1 = .ok (.istore_n 3, 1) := by decide +kernel
theorem e68_1 {d : Nat} {l0 l1 l2 l3 l4 : Option Value} {s0 : Int32} {σ : ab_St} {Q : Option Value → ab_St → Prop} : Ev d 68 1 [l0, l1, l2, l3, l4] [.int s0] σ Q = Ev d 68 2 [l0, l1, l2, some (.int s0), l4] [] σ Q := ev_S d68_1 rfl rfl rfl rfl
theorem d68_2 : decode (ab_C 68) 2 = .ok (.iload_n 3, 1) := by decide +kernel
theorem e68_2 {d : Nat} {l0 l1 l2 l4 : Option Value} {x : Int32} {σ : ab_St} {Q : Option Value → ab_St → Prop} : Ev d 68 2 [l0, l1, l2, some (.int x), l4] [] σ Q = Ev d 68 3 [l0, l1, l2, some (.int x), l4] [.int x] σ Q := ev_A1 d68_2 rfl
theorem d68_3 : decode (ab_C 68) 3 = .ok (.aload_n 1, 1) := by decide +kernel
theorem e68_3 {d : Nat} {l0 l2 l3 l4 : Option Value} {x : Nat} {s0 : Int32} {σ : ab_St} {Q : Option Value → ab_St → Prop} : Ev d 68 3 [l0, some (.ref x), l2, l3, l4] [.int s0] σ Q = Ev d 68 4 [l0, some (.ref x), l2, l3, l4] [.ref x, .int s0] σ Q := ev_A1 d68_3 rfl
theorem d68_4 : decode (ab_C 68) 4 = .ok (.getfield 59, 3) := by decide +kernel
theorem e68_4 {d : Nat} {l0 l1 l2 l3 l4 : Option Value} {s0 : Nat} {s1 : Int32} {σ : ab_St} {Q : Option Value → ab_St → Prop} : Ev d 68 4 [l0, l1, l2, l3, l4] [.ref s0, .int s1] σ Q = (ab_k s0 = 3 ∧ Ev d 68 7 [l0, l1, l2, l3, l4] [.int (σ.1 s0 5), .int s1] σ Q) := ev_Hc (c := ab_k s0 = 3) d68_4 rfl rfl rfl rfl rfl rfl rfl rfl
theorem d68_7 : decode (ab_C 68) 7 = .ok (.if_icmp .ge 82, 3) := by decide +kernel
theorem e68_7 {d : Nat} {l0 l1 l2 l3 l4 : Option Value} {s0 : Int32} {s1 : Int32} {σ : ab_St} {Q : Option Value → ab_St → Prop} : Ev d 68 7 [l0, l1, l2, l3, l4] [.int s0, .int s1] σ Q = if s0 ≤ s1 then Ev d 68 89 [l0, l1, l2, l3, l4] [] σ Q else Ev d 68 10 [l0, l1, l2, l3, l4] [] σ Q := ev_B (c := s0 ≤ s1) d68_7 rfl rfl rfl rfl rfl
theorem d68_10 : decode (ab_C 68) 10 = .ok (.aload_n 0, 1) := by decide +kernel
theorem e68_10 {d : Nat} {l1 l2 l3 l4 : Option Value} {x : Nat} {σ : ab_St} {Q : Option Value → ab_St → Prop} : Ev d 68 10 [some (.ref x), l1, l2, l3, l4] [] σ Q = Ev d 68 11 [some (.ref x), l1, l2, l3, l4] [.ref x] σ Q := ev_A1 d68_10 rfl
theorem d68_11 : decode (ab_C 68) 11 = .ok (.getfield 22, 3) := by decide +kernel
theorem e68_11 {d : Nat} {l0 l1 l2 l3 l4 : Option Value} {s0 : Nat} {σ : ab_St} {Q : Option Value → ab_St → Prop} : Ev d 68 11 [l0, l1, l2, l3, l4] [.ref s0] σ Q = (ab_k s0 = 6 ∧ Ev d 68 14 [l0, l1, l2, l3, l4] [.ref (ab_r s0 2)] σ Q) := ev_Hc (c := ab_k s0 = 6) d68_11 rfl rfl rfl rfl rfl rfl rfl rfl
theorem d68_14 : decode (ab_C 68) 14 = .ok (.iload_n 2, 1) := by decide +kernel
theorem e68_14 {d : Nat} {l0 l1 l3 l4 : Option Value} {x : Int32} {s0 : Nat} {σ : ab_St} {Q : Option Value → ab_St → Prop} : Ev d 68 14 [l0, l1, some (.int x), l3, l4] [.ref s0] σ Q = Ev d 68 15 [l0, l1, some (.int x), l3, l4] [.int x, .ref s0] σ Q := ev_A1 d68_14 rfl
theorem d68_15 : decode (ab_C 68) 15 = .ok (.iaload, 1) := by decide +kernel
theorem e68_15 {d : Nat} {l0 l1 l2 l3 l4 : Option Value} {s0 : Int32} {s1 : Nat} {σ : ab_St} {Q : Option Value → ab_St → Prop} : Ev d 68 15 [l0, l1, l2, l3, l4] [.int s0, .ref s1] σ Q = ((ab_k s1 = 100 ∧ ab_in s0 (ab_n s1)) ∧ Ev d 68 16 [l0, l1, l2, l3, l4] [.int (σ.1 s1 s0.toNatClampNeg)] σ Q) := ev_Hc (c := ab_k s1 = 100 ∧ ab_in s0 (ab_n s1)) d68_15 rfl rfl rfl rfl rfl rfl rfl rfl
theorem d68_16 : decode (ab_C 68) 16 = .ok (.iload_n 3, 1) := by decide +kernel
theorem e68_16 {d : Nat} {l0 l1 l2 l4 : Option Value} {x : Int32} {s0 : Int32} {σ : ab_St} {Q : Option Value → ab_St → Prop} : Ev d 68 16 [l0, l1, l2, some (.int x), l4] [.int s0] σ Q = Ev d 68 17 [l0, l1, l2, some (.int x), l4] [.int x, .int s0] σ Q := ev_A1 d68_16 rfl
theorem d68_17 : decode (ab_C 68) 17 = .ok (.invokestatic 64, 3) := by decide +kernel
theorem e68_17 {d : Nat} {l0 l1 l2 l3 l4 : Option Value} {s0 : Int32} {s1 : Int32} {σ : ab_St} {Q : Option Value → ab_St → Prop} : Ev (d + 1) 68 17 [l0, l1, l2, l3, l4] [.int s0, .int s1] σ Q = Ev d 32 0 [some (.int s1), some (.int s0)] [] σ (fun r σ2 => Ev (d + 1) 68 20 [l0, l1, l2, l3, l4] (r.toList ++ []) σ2 Q) := ev_K0 (y := 32) (ls := [l0, l1, l2, l3, l4]) (st := [.int s0, .int s1]) (as := [.int s1, .int s0]) (rest := []) d68_17 rfl rfl rfl rfl rfl rfl rfl rfl
theorem d68_20 : decode (ab_C 68) 20 = .ok (.ifCond .eq 63, 3) := by decide +kernel
theorem e68_20 {d : Nat} {l0 l1 l2 l3 l4 : Option Value} {s0 : Int32} {σ : ab_St} {Q : Option Value → ab_St → Prop} : Ev d 68 20 [l0, l1, l2, l3, l4] [.int s0] σ Q = if s0 = 0 then Ev d 68 83 [l0, l1, l2, l3, l4] [] σ Q else Ev d 68 23 [l0, l1, l2, l3, l4] [] σ Q := ev_B (c := s0 = 0) d68_20 rfl rfl rfl rfl rfl
theorem d68_23 : decode (ab_C 68) 23 = .ok (.iload_n 2, 1) := by decide +kernel
theorem e68_23 {d : Nat} {l0 l1 l3 l4 : Option Value} {x : Int32} {σ : ab_St} {Q : Option Value → ab_St → Prop} : Ev d 68 23 [l0, l1, some (.int x), l3, l4] [] σ Q = Ev d 68 24 [l0, l1, some (.int x), l3, l4] [.int x] σ Q := ev_A1 d68_23 rfl
theorem d68_24 : decode (ab_C 68) 24 = .ok (.iconst 1, 1) := by decide +kernel
theorem e68_24 {d : Nat} {l0 l1 l2 l3 l4 : Option Value} {s0 : Int32} {σ : ab_St} {Q : Option Value → ab_St → Prop} : Ev d 68 24 [l0, l1, l2, l3, l4] [.int s0] σ Q = Ev d 68 25 [l0, l1, l2, l3, l4] [.int 1, .int s0] σ Q := ev_A1 d68_24 rfl
theorem d68_25 : decode (ab_C 68) 25 = .ok (.iload_n 3, 1) := by decide +kernel
theorem e68_25 {d : Nat} {l0 l1 l2 l4 : Option Value} {x : Int32} {s0 : Int32} {s1 : Int32} {σ : ab_St} {Q : Option Value → ab_St → Prop} : Ev d 68 25 [l0, l1, l2, some (.int x), l4] [.int s0, .int s1] σ Q = Ev d 68 26 [l0, l1, l2, some (.int x), l4] [.int x, .int s0, .int s1] σ Q := ev_A1 d68_25 rfl
theorem d68_26 : decode (ab_C 68) 26 = .ok (.ishl, 1) := by decide +kernel
theorem e68_26 {d : Nat} {l0 l1 l2 l3 l4 : Option Value} {s0 : Int32} {s1 : Int32} {s2 : Int32} {σ : ab_St} {Q : Option Value → ab_St → Prop} : Ev d 68 26 [l0, l1, l2, l3, l4] [.int s0, .int s1, .int s2] σ Q = Ev d 68 27 [l0, l1, l2, l3, l4] [.int (s1 <<< (s0 &&& 31)), .int s2] σ Q := ev_A2 d68_26 rfl rfl
theorem d68_27 : decode (ab_C 68) 27 = .ok (.ior, 1) := by decide +kernel
theorem e68_27 {d : Nat} {l0 l1 l2 l3 l4 : Option Value} {s0 : Int32} {s1 : Int32} {σ : ab_St} {Q : Option Value → ab_St → Prop} : Ev d 68 27 [l0, l1, l2, l3, l4] [.int s0, .int s1] σ Q = Ev d 68 28 [l0, l1, l2, l3, l4] [.int (s1 ||| s0)] σ Q := ev_A2 d68_27 rfl rfl
theorem d68_28 : decode (ab_C 68) 28 = .ok (.istore 4, 2) := by decide +kernel
theorem e68_28 {d : Nat} {l0 l1 l2 l3 l4 : Option Value} {s0 : Int32} {σ : ab_St} {Q : Option Value → ab_St → Prop} : Ev d 68 28 [l0, l1, l2, l3, l4] [.int s0] σ Q = Ev d 68 30 [l0, l1, l2, l3, some (.int s0)] [] σ Q := ev_S d68_28 rfl rfl rfl rfl
theorem d68_30 : decode (ab_C 68) 30 = .ok (.aload_n 0, 1) := by decide +kernel
theorem e68_30 {d : Nat} {l1 l2 l3 l4 : Option Value} {x : Nat} {σ : ab_St} {Q : Option Value → ab_St → Prop} : Ev d 68 30 [some (.ref x), l1, l2, l3, l4] [] σ Q = Ev d 68 31 [some (.ref x), l1, l2, l3, l4] [.ref x] σ Q := ev_A1 d68_30 rfl
theorem d68_31 : decode (ab_C 68) 31 = .ok (.getfield 18, 3) := by decide +kernel
theorem e68_31 {d : Nat} {l0 l1 l2 l3 l4 : Option Value} {s0 : Nat} {σ : ab_St} {Q : Option Value → ab_St → Prop} : Ev d 68 31 [l0, l1, l2, l3, l4] [.ref s0] σ Q = (ab_k s0 = 6 ∧ Ev d 68 34 [l0, l1, l2, l3, l4] [.ref (ab_r s0 1)] σ Q) := ev_Hc (c := ab_k s0 = 6) d68_31 rfl rfl rfl rfl rfl rfl rfl rfl
theorem d68_34 : decode (ab_C 68) 34 = .ok (.iload 4, 2) := by decide +kernel
theorem e68_34 {d : Nat} {l0 l1 l2 l3 : Option Value} {x : Int32} {s0 : Nat} {σ : ab_St} {Q : Option Value → ab_St → Prop} : Ev d 68 34 [l0, l1, l2, l3, some (.int x)] [.ref s0] σ Q = Ev d 68 36 [l0, l1, l2, l3, some (.int x)] [.int x, .ref s0] σ Q := ev_A1 d68_34 rfl
theorem d68_36 : decode (ab_C 68) 36 = .ok (.dup2, 1) := by decide +kernel
theorem e68_36 {d : Nat} {l0 l1 l2 l3 l4 : Option Value} {s0 : Int32} {s1 : Nat} {σ : ab_St} {Q : Option Value → ab_St → Prop} : Ev d 68 36 [l0, l1, l2, l3, l4] [.int s0, .ref s1] σ Q = Ev d 68 37 [l0, l1, l2, l3, l4] [.int s0, .ref s1, .int s0, .ref s1] σ Q := ev_A1 d68_36 rfl
theorem d68_37 : decode (ab_C 68) 37 = .ok (.iaload, 1) := by decide +kernel
theorem e68_37 {d : Nat} {l0 l1 l2 l3 l4 : Option Value} {s0 : Int32} {s1 : Nat} {s2 : Int32} {s3 : Nat} {σ : ab_St} {Q : Option Value → ab_St → Prop} : Ev d 68 37 [l0, l1, l2, l3, l4] [.int s0, .ref s1, .int s2, .ref s3] σ Q = ((ab_k s1 = 100 ∧ ab_in s0 (ab_n s1)) ∧ Ev d 68 38 [l0, l1, l2, l3, l4] [.int (σ.1 s1 s0.toNatClampNeg), .int s2, .ref s3] σ Q) := ev_Hc (c := ab_k s1 = 100 ∧ ab_in s0 (ab_n s1)) d68_37 rfl rfl rfl rfl rfl rfl rfl rfl
theorem d68_38 : decode (ab_C 68) 38 = .ok (.iconst 1, 1) := by decide +kernel
theorem e68_38 {d : Nat} {l0 l1 l2 l3 l4 : Option Value} {s0 : Int32} {s1 : Int32} {s2 : Nat} {σ : ab_St} {Q : Option Value → ab_St → Prop} : Ev d 68 38 [l0, l1, l2, l3, l4] [.int s0, .int s1, .ref s2] σ Q = Ev d 68 39 [l0, l1, l2, l3, l4] [.int 1, .int s0, .int s1, .ref s2] σ Q := ev_A1 d68_38 rfl
theorem d68_39 : decode (ab_C 68) 39 = .ok (.iload_n 3, 1) := by decide +kernel
theorem e68_39 {d : Nat} {l0 l1 l2 l4 : Option Value} {x : Int32} {s0 : Int32} {s1 : Int32} {s2 : Int32} {s3 : Nat} {σ : ab_St} {Q : Option Value → ab_St → Prop} : Ev d 68 39 [l0, l1, l2, some (.int x), l4] [.int s0, .int s1, .int s2, .ref s3] σ Q = Ev d 68 40 [l0, l1, l2, some (.int x), l4] [.int x, .int s0, .int s1, .int s2, .ref s3] σ Q := ev_A1 d68_39 rfl
theorem d68_40 : decode (ab_C 68) 40 = .ok (.ishl, 1) := by decide +kernel
theorem e68_40 {d : Nat} {l0 l1 l2 l3 l4 : Option Value} {s0 : Int32} {s1 : Int32} {s2 : Int32} {s3 : Int32} {s4 : Nat} {σ : ab_St} {Q : Option Value → ab_St → Prop} : Ev d 68 40 [l0, l1, l2, l3, l4] [.int s0, .int s1, .int s2, .int s3, .ref s4] σ Q = Ev d 68 41 [l0, l1, l2, l3, l4] [.int (s1 <<< (s0 &&& 31)), .int s2, .int s3, .ref s4] σ Q := ev_A2 d68_40 rfl rfl
theorem d68_41 : decode (ab_C 68) 41 = .ok (.ior, 1) := by decide +kernel
theorem e68_41 {d : Nat} {l0 l1 l2 l3 l4 : Option Value} {s0 : Int32} {s1 : Int32} {s2 : Int32} {s3 : Nat} {σ : ab_St} {Q : Option Value → ab_St → Prop} : Ev d 68 41 [l0, l1, l2, l3, l4] [.int s0, .int s1, .int s2, .ref s3] σ Q = Ev d 68 42 [l0, l1, l2, l3, l4] [.int (s1 ||| s0), .int s2, .ref s3] σ Q := ev_A2 d68_41 rfl rfl
theorem d68_42 : decode (ab_C 68) 42 = .ok (.iastore, 1) := by decide +kernel
theorem e68_42 {d : Nat} {l0 l1 l2 l3 l4 : Option Value} {s0 : Int32} {s1 : Int32} {s2 : Nat} {σ : ab_St} {Q : Option Value → ab_St → Prop} : Ev d 68 42 [l0, l1, l2, l3, l4] [.int s0, .int s1, .ref s2] σ Q = ((ab_k s2 = 100 ∧ ab_in s1 (ab_n s2)) ∧ Ev d 68 43 [l0, l1, l2, l3, l4] [] (ab_wI σ s2 (upd (σ.1 s2) s1.toNatClampNeg s0)) Q) := ev_Hc (c := ab_k s2 = 100 ∧ ab_in s1 (ab_n s2)) d68_42 rfl rfl rfl rfl rfl rfl rfl rfl
theorem d68_43 : decode (ab_C 68) 43 = .ok (.aload_n 0, 1) := by decide +kernel
theorem e68_43 {d : Nat} {l1 l2 l3 l4 : Option Value} {x : Nat} {σ : ab_St} {Q : Option Value → ab_St → Prop} : Ev d 68 43 [some (.ref x), l1, l2, l3, l4] [] σ Q = Ev d 68 44 [some (.ref x), l1, l2, l3, l4] [.ref x] σ Q := ev_A1 d68_43 rfl
theorem d68_44 : decode (ab_C 68) 44 = .ok (.getfield 25, 3) := by decide +kernel
theorem e68_44 {d : Nat} {l0 l1 l2 l3 l4 : Option Value} {s0 : Nat} {σ : ab_St} {Q : Option Value → ab_St → Prop} : Ev d 68 44 [l0, l1, l2, l3, l4] [.ref s0] σ Q = (ab_k s0 = 6 ∧ Ev d 68 47 [l0, l1, l2, l3, l4] [.ref (ab_r s0 3)] σ Q) := ev_Hc (c := ab_k s0 = 6) d68_44 rfl rfl rfl rfl rfl rfl rfl rfl
theorem d68_47 : decode (ab_C 68) 47 = .ok (.iload 4, 2) := by decide +kernel
theorem e68_47 {d : Nat} {l0 l1 l2 l3 : Option Value} {x : Int32} {s0 : Nat} {σ : ab_St} {Q : Option Value → ab_St → Prop} : Ev d 68 47 [l0, l1, l2, l3, some (.int x)] [.ref s0] σ Q = Ev d 68 49 [l0, l1, l2, l3, some (.int x)] [.int x, .ref s0] σ Q := ev_A1 d68_47 rfl
theorem d68_49 : decode (ab_C 68) 49 = .ok (.aload_n 0, 1) := by decide +kernel
theorem e68_49 {d : Nat} {l1 l2 l3 l4 : Option Value} {x : Nat} {s0 : Int32} {s1 : Nat} {σ : ab_St} {Q : Option Value → ab_St → Prop} : Ev d 68 49 [some (.ref x), l1, l2, l3, l4] [.int s0, .ref s1] σ Q = Ev d 68 50 [some (.ref x), l1, l2, l3, l4] [.ref x, .int s0, .ref s1] σ Q := ev_A1 d68_49 rfl
theorem d68_50 : decode (ab_C 68) 50 = .ok (.getfield 25, 3) := by decide +kernel
theorem e68_50 {d : Nat} {l0 l1 l2 l3 l4 : Option Value} {s0 : Nat} {s1 : Int32} {s2 : Nat} {σ : ab_St} {Q : Option Value → ab_St → Prop} : Ev d 68 50 [l0, l1, l2, l3, l4] [.ref s0, .int s1, .ref s2] σ Q = (ab_k s0 = 6 ∧ Ev d 68 53 [l0, l1, l2, l3, l4] [.ref (ab_r s0 3), .int s1, .ref s2] σ Q) := ev_Hc (c := ab_k s0 = 6) d68_50 rfl rfl rfl rfl rfl rfl rfl rfl
theorem d68_53 : decode (ab_C 68) 53 = .ok (.iload_n 2, 1) := by decide +kernel
theorem e68_53 {d : Nat} {l0 l1 l3 l4 : Option Value} {x : Int32} {s0 : Nat} {s1 : Int32} {s2 : Nat} {σ : ab_St} {Q : Option Value → ab_St → Prop} : Ev d 68 53 [l0, l1, some (.int x), l3, l4] [.ref s0, .int s1, .ref s2] σ Q = Ev d 68 54 [l0, l1, some (.int x), l3, l4] [.int x, .ref s0, .int s1, .ref s2] σ Q := ev_A1 d68_53 rfl
theorem d68_54 : decode (ab_C 68) 54 = .ok (.iaload, 1) := by decide +kernel
theorem e68_54 {d : Nat} {l0 l1 l2 l3 l4 : Option Value} {s0 : Int32} {s1 : Nat} {s2 : Int32} {s3 : Nat} {σ : ab_St} {Q : Option Value → ab_St → Prop} : Ev d 68 54 [l0, l1, l2, l3, l4] [.int s0, .ref s1, .int s2, .ref s3] σ Q = ((ab_k s1 = 100 ∧ ab_in s0 (ab_n s1)) ∧ Ev d 68 55 [l0, l1, l2, l3, l4] [.int (σ.1 s1 s0.toNatClampNeg), .int s2, .ref s3] σ Q) := ev_Hc (c := ab_k s1 = 100 ∧ ab_in s0 (ab_n s1)) d68_54 rfl rfl rfl rfl rfl rfl rfl rfl
theorem d68_55 : decode (ab_C 68) 55 = .ok (.aload_n 1, 1) := by decide +kernel
theorem e68_55 {d : Nat} {l0 l2 l3 l4 : Option Value} {x : Nat} {s0 : Int32} {s1 : Int32} {s2 : Nat} {σ : ab_St} {Q : Option Value → ab_St → Prop} : Ev d 68 55 [l0, some (.ref x), l2, l3, l4] [.int s0, .int s1, .ref s2] σ Q = Ev d 68 56 [l0, some (.ref x), l2, l3, l4] [.ref x, .int s0, .int s1, .ref s2] σ Q := ev_A1 d68_55 rfl
theorem d68_56 : decode (ab_C 68) 56 = .ok (.getfield 101, 3) := by decide +kernel
theorem e68_56 {d : Nat} {l0 l1 l2 l3 l4 : Option Value} {s0 : Nat} {s1 : Int32} {s2 : Int32} {s3 : Nat} {σ : ab_St} {Q : Option Value → ab_St → Prop} : Ev d 68 56 [l0, l1, l2, l3, l4] [.ref s0, .int s1, .int s2, .ref s3] σ Q = (ab_k s0 = 3 ∧ Ev d 68 59 [l0, l1, l2, l3, l4] [.ref (ab_r s0 1), .int s1, .int s2, .ref s3] σ Q) := ev_Hc (c := ab_k s0 = 3) d68_56 rfl rfl rfl rfl rfl rfl rfl rfl
theorem d68_59 : decode (ab_C 68) 59 = .ok (.iload_n 3, 1) := by decide +kernel
theorem e68_59 {d : Nat} {l0 l1 l2 l4 : Option Value} {x : Int32} {s0 : Nat} {s1 : Int32} {s2 : Int32} {s3 : Nat} {σ : ab_St} {Q : Option Value → ab_St → Prop} : Ev d 68 59 [l0, l1, l2, some (.int x), l4] [.ref s0, .int s1, .int s2, .ref s3] σ Q = Ev d 68 60 [l0, l1, l2, some (.int x), l4] [.int x, .ref s0, .int s1, .int s2, .ref s3] σ Q := ev_A1 d68_59 rfl
theorem d68_60 : decode (ab_C 68) 60 = .ok (.iaload, 1) := by decide +kernel
theorem e68_60 {d : Nat} {l0 l1 l2 l3 l4 : Option Value} {s0 : Int32} {s1 : Nat} {s2 : Int32} {s3 : Int32} {s4 : Nat} {σ : ab_St} {Q : Option Value → ab_St → Prop} : Ev d 68 60 [l0, l1, l2, l3, l4] [.int s0, .ref s1, .int s2, .int s3, .ref s4] σ Q = ((ab_k s1 = 100 ∧ ab_in s0 (ab_n s1)) ∧ Ev d 68 61 [l0, l1, l2, l3, l4] [.int (σ.1 s1 s0.toNatClampNeg), .int s2, .int s3, .ref s4] σ Q) := ev_Hc (c := ab_k s1 = 100 ∧ ab_in s0 (ab_n s1)) d68_60 rfl rfl rfl rfl rfl rfl rfl rfl
theorem d68_61 : decode (ab_C 68) 61 = .ok (.iadd, 1) := by decide +kernel
theorem e68_61 {d : Nat} {l0 l1 l2 l3 l4 : Option Value} {s0 : Int32} {s1 : Int32} {s2 : Int32} {s3 : Nat} {σ : ab_St} {Q : Option Value → ab_St → Prop} : Ev d 68 61 [l0, l1, l2, l3, l4] [.int s0, .int s1, .int s2, .ref s3] σ Q = Ev d 68 62 [l0, l1, l2, l3, l4] [.int (s1 + s0), .int s2, .ref s3] σ Q := ev_A2 d68_61 rfl rfl
theorem d68_62 : decode (ab_C 68) 62 = .ok (.iastore, 1) := by decide +kernel
theorem e68_62 {d : Nat} {l0 l1 l2 l3 l4 : Option Value} {s0 : Int32} {s1 : Int32} {s2 : Nat} {σ : ab_St} {Q : Option Value → ab_St → Prop} : Ev d 68 62 [l0, l1, l2, l3, l4] [.int s0, .int s1, .ref s2] σ Q = ((ab_k s2 = 100 ∧ ab_in s1 (ab_n s2)) ∧ Ev d 68 63 [l0, l1, l2, l3, l4] [] (ab_wI σ s2 (upd (σ.1 s2) s1.toNatClampNeg s0)) Q) := ev_Hc (c := ab_k s2 = 100 ∧ ab_in s1 (ab_n s2)) d68_62 rfl rfl rfl rfl rfl rfl rfl rfl
theorem d68_63 : decode (ab_C 68) 63 = .ok (.aload_n 0, 1) := by decide +kernel
theorem e68_63 {d : Nat} {l1 l2 l3 l4 : Option Value} {x : Nat} {σ : ab_St} {Q : Option Value → ab_St → Prop} : Ev d 68 63 [some (.ref x), l1, l2, l3, l4] [] σ Q = Ev d 68 64 [some (.ref x), l1, l2, l3, l4] [.ref x] σ Q := ev_A1 d68_63 rfl
theorem d68_64 : decode (ab_C 68) 64 = .ok (.getfield 28, 3) := by decide +kernel
theorem e68_64 {d : Nat} {l0 l1 l2 l3 l4 : Option Value} {s0 : Nat} {σ : ab_St} {Q : Option Value → ab_St → Prop} : Ev d 68 64 [l0, l1, l2, l3, l4] [.ref s0] σ Q = (ab_k s0 = 6 ∧ Ev d 68 67 [l0, l1, l2, l3, l4] [.ref (ab_r s0 4)] σ Q) := ev_Hc (c := ab_k s0 = 6) d68_64 rfl rfl rfl rfl rfl rfl rfl rfl
theorem d68_67 : decode (ab_C 68) 67 = .ok (.iload 4, 2) := by decide +kernel
theorem e68_67 {d : Nat} {l0 l1 l2 l3 : Option Value} {x : Int32} {s0 : Nat} {σ : ab_St} {Q : Option Value → ab_St → Prop} : Ev d 68 67 [l0, l1, l2, l3, some (.int x)] [.ref s0] σ Q = Ev d 68 69 [l0, l1, l2, l3, some (.int x)] [.int x, .ref s0] σ Q := ev_A1 d68_67 rfl
theorem d68_69 : decode (ab_C 68) 69 = .ok (.aload_n 0, 1) := by decide +kernel
theorem e68_69 {d : Nat} {l1 l2 l3 l4 : Option Value} {x : Nat} {s0 : Int32} {s1 : Nat} {σ : ab_St} {Q : Option Value → ab_St → Prop} : Ev d 68 69 [some (.ref x), l1, l2, l3, l4] [.int s0, .ref s1] σ Q = Ev d 68 70 [some (.ref x), l1, l2, l3, l4] [.ref x, .int s0, .ref s1] σ Q := ev_A1 d68_69 rfl
theorem d68_70 : decode (ab_C 68) 70 = .ok (.getfield 28, 3) := by decide +kernel
theorem e68_70 {d : Nat} {l0 l1 l2 l3 l4 : Option Value} {s0 : Nat} {s1 : Int32} {s2 : Nat} {σ : ab_St} {Q : Option Value → ab_St → Prop} : Ev d 68 70 [l0, l1, l2, l3, l4] [.ref s0, .int s1, .ref s2] σ Q = (ab_k s0 = 6 ∧ Ev d 68 73 [l0, l1, l2, l3, l4] [.ref (ab_r s0 4), .int s1, .ref s2] σ Q) := ev_Hc (c := ab_k s0 = 6) d68_70 rfl rfl rfl rfl rfl rfl rfl rfl
theorem d68_73 : decode (ab_C 68) 73 = .ok (.iload_n 2, 1) := by decide +kernel
theorem e68_73 {d : Nat} {l0 l1 l3 l4 : Option Value} {x : Int32} {s0 : Nat} {s1 : Int32} {s2 : Nat} {σ : ab_St} {Q : Option Value → ab_St → Prop} : Ev d 68 73 [l0, l1, some (.int x), l3, l4] [.ref s0, .int s1, .ref s2] σ Q = Ev d 68 74 [l0, l1, some (.int x), l3, l4] [.int x, .ref s0, .int s1, .ref s2] σ Q := ev_A1 d68_73 rfl
theorem d68_74 : decode (ab_C 68) 74 = .ok (.iaload, 1) := by decide +kernel
theorem e68_74 {d : Nat} {l0 l1 l2 l3 l4 : Option Value} {s0 : Int32} {s1 : Nat} {s2 : Int32} {s3 : Nat} {σ : ab_St} {Q : Option Value → ab_St → Prop} : Ev d 68 74 [l0, l1, l2, l3, l4] [.int s0, .ref s1, .int s2, .ref s3] σ Q = ((ab_k s1 = 100 ∧ ab_in s0 (ab_n s1)) ∧ Ev d 68 75 [l0, l1, l2, l3, l4] [.int (σ.1 s1 s0.toNatClampNeg), .int s2, .ref s3] σ Q) := ev_Hc (c := ab_k s1 = 100 ∧ ab_in s0 (ab_n s1)) d68_74 rfl rfl rfl rfl rfl rfl rfl rfl
theorem d68_75 : decode (ab_C 68) 75 = .ok (.aload_n 1, 1) := by decide +kernel
theorem e68_75 {d : Nat} {l0 l2 l3 l4 : Option Value} {x : Nat} {s0 : Int32} {s1 : Int32} {s2 : Nat} {σ : ab_St} {Q : Option Value → ab_St → Prop} : Ev d 68 75 [l0, some (.ref x), l2, l3, l4] [.int s0, .int s1, .ref s2] σ Q = Ev d 68 76 [l0, some (.ref x), l2, l3, l4] [.ref x, .int s0, .int s1, .ref s2] σ Q := ev_A1 d68_75 rfl
theorem d68_76 : decode (ab_C 68) 76 = .ok (.getfield 104, 3) := by decide +kernel
theorem e68_76 {d : Nat} {l0 l1 l2 l3 l4 : Option Value} {s0 : Nat} {s1 : Int32} {s2 : Int32} {s3 : Nat} {σ : ab_St} {Q : Option Value → ab_St → Prop} : Ev d 68 76 [l0, l1, l2, l3, l4] [.ref s0, .int s1, .int s2, .ref s3] σ Q = (ab_k s0 = 3 ∧ Ev d 68 79 [l0, l1, l2, l3, l4] [.ref (ab_r s0 2), .int s1, .int s2, .ref s3] σ Q) := ev_Hc (c := ab_k s0 = 3) d68_76 rfl rfl rfl rfl rfl rfl rfl rfl
theorem d68_79 : decode (ab_C 68) 79 = .ok (.iload_n 3, 1) := by decide +kernel
theorem e68_79 {d : Nat} {l0 l1 l2 l4 : Option Value} {x : Int32} {s0 : Nat} {s1 : Int32} {s2 : Int32} {s3 : Nat} {σ : ab_St} {Q : Option Value → ab_St → Prop} : Ev d 68 79 [l0, l1, l2, some (.int x), l4] [.ref s0, .int s1, .int s2, .ref s3] σ Q = Ev d 68 80 [l0, l1, l2, some (.int x), l4] [.int x, .ref s0, .int s1, .int s2, .ref s3] σ Q := ev_A1 d68_79 rfl
theorem d68_80 : decode (ab_C 68) 80 = .ok (.iaload, 1) := by decide +kernel
theorem e68_80 {d : Nat} {l0 l1 l2 l3 l4 : Option Value} {s0 : Int32} {s1 : Nat} {s2 : Int32} {s3 : Int32} {s4 : Nat} {σ : ab_St} {Q : Option Value → ab_St → Prop} : Ev d 68 80 [l0, l1, l2, l3, l4] [.int s0, .ref s1, .int s2, .int s3, .ref s4] σ Q = ((ab_k s1 = 100 ∧ ab_in s0 (ab_n s1)) ∧ Ev d 68 81 [l0, l1, l2, l3, l4] [.int (σ.1 s1 s0.toNatClampNeg), .int s2, .int s3, .ref s4] σ Q) := ev_Hc (c := ab_k s1 = 100 ∧ ab_in s0 (ab_n s1)) d68_80 rfl rfl rfl rfl rfl rfl rfl rfl
theorem d68_81 : decode (ab_C 68) 81 = .ok (.iadd, 1) := by decide +kernel
theorem e68_81 {d : Nat} {l0 l1 l2 l3 l4 : Option Value} {s0 : Int32} {s1 : Int32} {s2 : Int32} {s3 : Nat} {σ : ab_St} {Q : Option Value → ab_St → Prop} : Ev d 68 81 [l0, l1, l2, l3, l4] [.int s0, .int s1, .int s2, .ref s3] σ Q = Ev d 68 82 [l0, l1, l2, l3, l4] [.int (s1 + s0), .int s2, .ref s3] σ Q := ev_A2 d68_81 rfl rfl
theorem d68_82 : decode (ab_C 68) 82 = .ok (.iastore, 1) := by decide +kernel
theorem e68_82 {d : Nat} {l0 l1 l2 l3 l4 : Option Value} {s0 : Int32} {s1 : Int32} {s2 : Nat} {σ : ab_St} {Q : Option Value → ab_St → Prop} : Ev d 68 82 [l0, l1, l2, l3, l4] [.int s0, .int s1, .ref s2] σ Q = ((ab_k s2 = 100 ∧ ab_in s1 (ab_n s2)) ∧ Ev d 68 83 [l0, l1, l2, l3, l4] [] (ab_wI σ s2 (upd (σ.1 s2) s1.toNatClampNeg s0)) Q) := ev_Hc (c := ab_k s2 = 100 ∧ ab_in s1 (ab_n s2)) d68_82 rfl rfl rfl rfl rfl rfl rfl rfl
theorem d68_83 : decode (ab_C 68) 83 = .ok (.iinc 3 1, 3) := by decide +kernel
theorem e68_83 {d : Nat} {l0 l1 l2 l4 : Option Value} {x : Int32} {σ : ab_St} {Q : Option Value → ab_St → Prop} : Ev d 68 83 [l0, l1, l2, some (.int x), l4] [] σ Q = Ev d 68 86 [l0, l1, l2, some (.int (x + 1)), l4] [] σ Q := ev_S d68_83 rfl rfl rfl rfl
theorem d68_86 : decode (ab_C 68) 86 = .ok (.goto (-84), 3) := by decide +kernel
theorem e68_86 {d : Nat} {l0 l1 l2 l3 l4 : Option Value} {σ : ab_St} {Q : Option Value → ab_St → Prop} : Ev d 68 86 [l0, l1, l2, l3, l4] [] σ Q = Ev d 68 2 [l0, l1, l2, l3, l4] [] σ Q := ev_J d68_86 rfl rfl rfl rfl rfl
theorem d68_89 : decode (ab_C 68) 89 = .ok (.return_, 1) := by decide +kernel
theorem e68_89 {d : Nat} {l0 l1 l2 l3 l4 : Option Value} {σ : ab_St} {Q : Option Value → ab_St → Prop} : Ev d 68 89 [l0, l1, l2, l3, l4] [] σ Q = Q none σ := ev_E d68_89 rfl rfl rfl rfl rfl rfl rfl
/-! SaidLeast$Orders.topWorth(LSaidLeast$Told;LSaidLeast$State;I)I -/
theorem d69_0 : decode (ab_C 69) 0 = .ok (.iconst 0, 1) := by decide +kernel
theorem e69_0 {d : Nat} {l0 l1 l2 l3 l4 l5 : Option Value} {σ : ab_St} {Q : Option Value → ab_St → Prop} : Ev d 69 0 [l0, l1, l2, l3, l4, l5] [] σ Q = Ev d 69 1 [l0, l1, l2, l3, l4, l5] [.int 0] σ Q := ev_A1 d69_0 rfl
theorem d69_1 : decode (ab_C 69) 1 = .ok (.istore 4, 2) := by decide +kernel
theorem e69_1 {d : Nat} {l0 l1 l2 l3 l4 l5 : Option Value} {s0 : Int32} {σ : ab_St} {Q : Option Value → ab_St → Prop} : Ev d 69 1 [l0, l1, l2, l3, l4, l5] [.int s0] σ Q = Ev d 69 3 [l0, l1, l2, l3, some (.int s0), l5] [] σ Q := ev_S d69_1 rfl rfl rfl rfl
theorem d69_3 : decode (ab_C 69) 3 = .ok (.aload_n 2, 1) := by decide +kernel
theorem e69_3 {d : Nat} {l0 l1 l3 l4 l5 : Option Value} {x : Nat} {σ : ab_St} {Q : Option Value → ab_St → Prop} : Ev d 69 3 [l0, l1, some (.ref x), l3, l4, l5] [] σ Q = Ev d 69 4 [l0, l1, some (.ref x), l3, l4, l5] [.ref x] σ Q := ev_A1 d69_3 rfl
theorem d69_4 : decode (ab_C 69) 4 = .ok (.getfield 46, 3) := by decide +kernel
theorem e69_4 {d : Nat} {l0 l1 l2 l3 l4 l5 : Option Value} {s0 : Nat} {σ : ab_St} {Q : Option Value → ab_St → Prop} : Ev d 69 4 [l0, l1, l2, l3, l4, l5] [.ref s0] σ Q = (ab_k s0 = 4 ∧ Ev d 69 7 [l0, l1, l2, l3, l4, l5] [.int (σ.1 s0 2)] σ Q) := ev_Hc (c := ab_k s0 = 4) d69_4 rfl rfl rfl rfl rfl rfl rfl rfl
theorem d69_7 : decode (ab_C 69) 7 = .ok (.istore 5, 2) := by decide +kernel
theorem e69_7 {d : Nat} {l0 l1 l2 l3 l4 l5 : Option Value} {s0 : Int32} {σ : ab_St} {Q : Option Value → ab_St → Prop} : Ev d 69 7 [l0, l1, l2, l3, l4, l5] [.int s0] σ Q = Ev d 69 9 [l0, l1, l2, l3, l4, some (.int s0)] [] σ Q := ev_S d69_7 rfl rfl rfl rfl
theorem d69_9 : decode (ab_C 69) 9 = .ok (.iload 5, 2) := by decide +kernel
theorem e69_9 {d : Nat} {l0 l1 l2 l3 l4 : Option Value} {x : Int32} {σ : ab_St} {Q : Option Value → ab_St → Prop} : Ev d 69 9 [l0, l1, l2, l3, l4, some (.int x)] [] σ Q = Ev d 69 11 [l0, l1, l2, l3, l4, some (.int x)] [.int x] σ Q := ev_A1 d69_9 rfl
theorem d69_11 : decode (ab_C 69) 11 = .ok (.iconst 1, 1) := by decide +kernel
theorem e69_11 {d : Nat} {l0 l1 l2 l3 l4 l5 : Option Value} {s0 : Int32} {σ : ab_St} {Q : Option Value → ab_St → Prop} : Ev d 69 11 [l0, l1, l2, l3, l4, l5] [.int s0] σ Q = Ev d 69 12 [l0, l1, l2, l3, l4, l5] [.int 1, .int s0] σ Q := ev_A1 d69_11 rfl
theorem d69_12 : decode (ab_C 69) 12 = .ok (.aload_n 1, 1) := by decide +kernel
theorem e69_12 {d : Nat} {l0 l2 l3 l4 l5 : Option Value} {x : Nat} {s0 : Int32} {s1 : Int32} {σ : ab_St} {Q : Option Value → ab_St → Prop} : Ev d 69 12 [l0, some (.ref x), l2, l3, l4, l5] [.int s0, .int s1] σ Q = Ev d 69 13 [l0, some (.ref x), l2, l3, l4, l5] [.ref x, .int s0, .int s1] σ Q := ev_A1 d69_12 rfl
theorem d69_13 : decode (ab_C 69) 13 = .ok (.getfield 59, 3) := by decide +kernel
theorem e69_13 {d : Nat} {l0 l1 l2 l3 l4 l5 : Option Value} {s0 : Nat} {s1 : Int32} {s2 : Int32} {σ : ab_St} {Q : Option Value → ab_St → Prop} : Ev d 69 13 [l0, l1, l2, l3, l4, l5] [.ref s0, .int s1, .int s2] σ Q = (ab_k s0 = 3 ∧ Ev d 69 16 [l0, l1, l2, l3, l4, l5] [.int (σ.1 s0 5), .int s1, .int s2] σ Q) := ev_Hc (c := ab_k s0 = 3) d69_13 rfl rfl rfl rfl rfl rfl rfl rfl
theorem d69_16 : decode (ab_C 69) 16 = .ok (.ishl, 1) := by decide +kernel
theorem e69_16 {d : Nat} {l0 l1 l2 l3 l4 l5 : Option Value} {s0 : Int32} {s1 : Int32} {s2 : Int32} {σ : ab_St} {Q : Option Value → ab_St → Prop} : Ev d 69 16 [l0, l1, l2, l3, l4, l5] [.int s0, .int s1, .int s2] σ Q = Ev d 69 17 [l0, l1, l2, l3, l4, l5] [.int (s1 <<< (s0 &&& 31)), .int s2] σ Q := ev_A2 d69_16 rfl rfl
theorem d69_17 : decode (ab_C 69) 17 = .ok (.if_icmp .ge 44, 3) := by decide +kernel
theorem e69_17 {d : Nat} {l0 l1 l2 l3 l4 l5 : Option Value} {s0 : Int32} {s1 : Int32} {σ : ab_St} {Q : Option Value → ab_St → Prop} : Ev d 69 17 [l0, l1, l2, l3, l4, l5] [.int s0, .int s1] σ Q = if s0 ≤ s1 then Ev d 69 61 [l0, l1, l2, l3, l4, l5] [] σ Q else Ev d 69 20 [l0, l1, l2, l3, l4, l5] [] σ Q := ev_B (c := s0 ≤ s1) d69_17 rfl rfl rfl rfl rfl
theorem d69_20 : decode (ab_C 69) 20 = .ok (.aload_n 0, 1) := by decide +kernel
theorem e69_20 {d : Nat} {l1 l2 l3 l4 l5 : Option Value} {x : Nat} {σ : ab_St} {Q : Option Value → ab_St → Prop} : Ev d 69 20 [some (.ref x), l1, l2, l3, l4, l5] [] σ Q = Ev d 69 21 [some (.ref x), l1, l2, l3, l4, l5] [.ref x] σ Q := ev_A1 d69_20 rfl
theorem d69_21 : decode (ab_C 69) 21 = .ok (.getfield 18, 3) := by decide +kernel
theorem e69_21 {d : Nat} {l0 l1 l2 l3 l4 l5 : Option Value} {s0 : Nat} {σ : ab_St} {Q : Option Value → ab_St → Prop} : Ev d 69 21 [l0, l1, l2, l3, l4, l5] [.ref s0] σ Q = (ab_k s0 = 6 ∧ Ev d 69 24 [l0, l1, l2, l3, l4, l5] [.ref (ab_r s0 1)] σ Q) := ev_Hc (c := ab_k s0 = 6) d69_21 rfl rfl rfl rfl rfl rfl rfl rfl
theorem d69_24 : decode (ab_C 69) 24 = .ok (.iload 5, 2) := by decide +kernel
theorem e69_24 {d : Nat} {l0 l1 l2 l3 l4 : Option Value} {x : Int32} {s0 : Nat} {σ : ab_St} {Q : Option Value → ab_St → Prop} : Ev d 69 24 [l0, l1, l2, l3, l4, some (.int x)] [.ref s0] σ Q = Ev d 69 26 [l0, l1, l2, l3, l4, some (.int x)] [.int x, .ref s0] σ Q := ev_A1 d69_24 rfl
theorem d69_26 : decode (ab_C 69) 26 = .ok (.iaload, 1) := by decide +kernel
theorem e69_26 {d : Nat} {l0 l1 l2 l3 l4 l5 : Option Value} {s0 : Int32} {s1 : Nat} {σ : ab_St} {Q : Option Value → ab_St → Prop} : Ev d 69 26 [l0, l1, l2, l3, l4, l5] [.int s0, .ref s1] σ Q = ((ab_k s1 = 100 ∧ ab_in s0 (ab_n s1)) ∧ Ev d 69 27 [l0, l1, l2, l3, l4, l5] [.int (σ.1 s1 s0.toNatClampNeg)] σ Q) := ev_Hc (c := ab_k s1 = 100 ∧ ab_in s0 (ab_n s1)) d69_26 rfl rfl rfl rfl rfl rfl rfl rfl
theorem d69_27 : decode (ab_C 69) 27 = .ok (.ifCond .eq 28, 3) := by decide +kernel
theorem e69_27 {d : Nat} {l0 l1 l2 l3 l4 l5 : Option Value} {s0 : Int32} {σ : ab_St} {Q : Option Value → ab_St → Prop} : Ev d 69 27 [l0, l1, l2, l3, l4, l5] [.int s0] σ Q = if s0 = 0 then Ev d 69 55 [l0, l1, l2, l3, l4, l5] [] σ Q else Ev d 69 30 [l0, l1, l2, l3, l4, l5] [] σ Q := ev_B (c := s0 = 0) d69_27 rfl rfl rfl rfl rfl
theorem d69_30 : decode (ab_C 69) 30 = .ok (.aload_n 0, 1) := by decide +kernel
theorem e69_30 {d : Nat} {l1 l2 l3 l4 l5 : Option Value} {x : Nat} {σ : ab_St} {Q : Option Value → ab_St → Prop} : Ev d 69 30 [some (.ref x), l1, l2, l3, l4, l5] [] σ Q = Ev d 69 31 [some (.ref x), l1, l2, l3, l4, l5] [.ref x] σ Q := ev_A1 d69_30 rfl
theorem d69_31 : decode (ab_C 69) 31 = .ok (.getfield 25, 3) := by decide +kernel
theorem e69_31 {d : Nat} {l0 l1 l2 l3 l4 l5 : Option Value} {s0 : Nat} {σ : ab_St} {Q : Option Value → ab_St → Prop} : Ev d 69 31 [l0, l1, l2, l3, l4, l5] [.ref s0] σ Q = (ab_k s0 = 6 ∧ Ev d 69 34 [l0, l1, l2, l3, l4, l5] [.ref (ab_r s0 3)] σ Q) := ev_Hc (c := ab_k s0 = 6) d69_31 rfl rfl rfl rfl rfl rfl rfl rfl
theorem d69_34 : decode (ab_C 69) 34 = .ok (.iload 5, 2) := by decide +kernel
theorem e69_34 {d : Nat} {l0 l1 l2 l3 l4 : Option Value} {x : Int32} {s0 : Nat} {σ : ab_St} {Q : Option Value → ab_St → Prop} : Ev d 69 34 [l0, l1, l2, l3, l4, some (.int x)] [.ref s0] σ Q = Ev d 69 36 [l0, l1, l2, l3, l4, some (.int x)] [.int x, .ref s0] σ Q := ev_A1 d69_34 rfl
theorem d69_36 : decode (ab_C 69) 36 = .ok (.iaload, 1) := by decide +kernel
theorem e69_36 {d : Nat} {l0 l1 l2 l3 l4 l5 : Option Value} {s0 : Int32} {s1 : Nat} {σ : ab_St} {Q : Option Value → ab_St → Prop} : Ev d 69 36 [l0, l1, l2, l3, l4, l5] [.int s0, .ref s1] σ Q = ((ab_k s1 = 100 ∧ ab_in s0 (ab_n s1)) ∧ Ev d 69 37 [l0, l1, l2, l3, l4, l5] [.int (σ.1 s1 s0.toNatClampNeg)] σ Q) := ev_Hc (c := ab_k s1 = 100 ∧ ab_in s0 (ab_n s1)) d69_36 rfl rfl rfl rfl rfl rfl rfl rfl
theorem d69_37 : decode (ab_C 69) 37 = .ok (.iload_n 3, 1) := by decide +kernel
theorem e69_37 {d : Nat} {l0 l1 l2 l4 l5 : Option Value} {x : Int32} {s0 : Int32} {σ : ab_St} {Q : Option Value → ab_St → Prop} : Ev d 69 37 [l0, l1, l2, some (.int x), l4, l5] [.int s0] σ Q = Ev d 69 38 [l0, l1, l2, some (.int x), l4, l5] [.int x, .int s0] σ Q := ev_A1 d69_37 rfl
theorem d69_38 : decode (ab_C 69) 38 = .ok (.if_icmp .gt 17, 3) := by decide +kernel
theorem e69_38 {d : Nat} {l0 l1 l2 l3 l4 l5 : Option Value} {s0 : Int32} {s1 : Int32} {σ : ab_St} {Q : Option Value → ab_St → Prop} : Ev d 69 38 [l0, l1, l2, l3, l4, l5] [.int s0, .int s1] σ Q = if s0 < s1 then Ev d 69 55 [l0, l1, l2, l3, l4, l5] [] σ Q else Ev d 69 41 [l0, l1, l2, l3, l4, l5] [] σ Q := ev_B (c := s0 < s1) d69_38 rfl rfl rfl rfl rfl
theorem d69_41 : decode (ab_C 69) 41 = .ok (.iload 4, 2) := by decide +kernel
theorem e69_41 {d : Nat} {l0 l1 l2 l3 l5 : Option Value} {x : Int32} {σ : ab_St} {Q : Option Value → ab_St → Prop} : Ev d 69 41 [l0, l1, l2, l3, some (.int x), l5] [] σ Q = Ev d 69 43 [l0, l1, l2, l3, some (.int x), l5] [.int x] σ Q := ev_A1 d69_41 rfl
theorem d69_43 : decode (ab_C 69) 43 = .ok (.aload_n 0, 1) := by decide +kernel
theorem e69_43 {d : Nat} {l1 l2 l3 l4 l5 : Option Value} {x : Nat} {s0 : Int32} {σ : ab_St} {Q : Option Value → ab_St → Prop} : Ev d 69 43 [some (.ref x), l1, l2, l3, l4, l5] [.int s0] σ Q = Ev d 69 44 [some (.ref x), l1, l2, l3, l4, l5] [.ref x, .int s0] σ Q := ev_A1 d69_43 rfl
theorem d69_44 : decode (ab_C 69) 44 = .ok (.getfield 28, 3) := by decide +kernel
theorem e69_44 {d : Nat} {l0 l1 l2 l3 l4 l5 : Option Value} {s0 : Nat} {s1 : Int32} {σ : ab_St} {Q : Option Value → ab_St → Prop} : Ev d 69 44 [l0, l1, l2, l3, l4, l5] [.ref s0, .int s1] σ Q = (ab_k s0 = 6 ∧ Ev d 69 47 [l0, l1, l2, l3, l4, l5] [.ref (ab_r s0 4), .int s1] σ Q) := ev_Hc (c := ab_k s0 = 6) d69_44 rfl rfl rfl rfl rfl rfl rfl rfl
theorem d69_47 : decode (ab_C 69) 47 = .ok (.iload 5, 2) := by decide +kernel
theorem e69_47 {d : Nat} {l0 l1 l2 l3 l4 : Option Value} {x : Int32} {s0 : Nat} {s1 : Int32} {σ : ab_St} {Q : Option Value → ab_St → Prop} : Ev d 69 47 [l0, l1, l2, l3, l4, some (.int x)] [.ref s0, .int s1] σ Q = Ev d 69 49 [l0, l1, l2, l3, l4, some (.int x)] [.int x, .ref s0, .int s1] σ Q := ev_A1 d69_47 rfl
theorem d69_49 : decode (ab_C 69) 49 = .ok (.iaload, 1) := by decide +kernel
theorem e69_49 {d : Nat} {l0 l1 l2 l3 l4 l5 : Option Value} {s0 : Int32} {s1 : Nat} {s2 : Int32} {σ : ab_St} {Q : Option Value → ab_St → Prop} : Ev d 69 49 [l0, l1, l2, l3, l4, l5] [.int s0, .ref s1, .int s2] σ Q = ((ab_k s1 = 100 ∧ ab_in s0 (ab_n s1)) ∧ Ev d 69 50 [l0, l1, l2, l3, l4, l5] [.int (σ.1 s1 s0.toNatClampNeg), .int s2] σ Q) := ev_Hc (c := ab_k s1 = 100 ∧ ab_in s0 (ab_n s1)) d69_49 rfl rfl rfl rfl rfl rfl rfl rfl
theorem d69_50 : decode (ab_C 69) 50 = .ok (.invokestatic 107, 3) := by decide +kernel
theorem e69_50 {d : Nat} {l0 l1 l2 l3 l4 l5 : Option Value} {s0 : Int32} {s1 : Int32} {σ : ab_St} {Q : Option Value → ab_St → Prop} : Ev (d + 1) 69 50 [l0, l1, l2, l3, l4, l5] [.int s0, .int s1] σ Q = Ev (d + 1) 69 53 [l0, l1, l2, l3, l4, l5] [.int (if s1 < s0 then s0 else s1)] σ Q := ev_X d69_50 rfl rfl (ab_X_ok (k := 0) (st := []) rfl (Nat.le_of_ble_eq_true rfl))
theorem d69_53 : decode (ab_C 69) 53 = .ok (.istore 4, 2) := by decide +kernel
theorem e69_53 {d : Nat} {l0 l1 l2 l3 l4 l5 : Option Value} {s0 : Int32} {σ : ab_St} {Q : Option Value → ab_St → Prop} : Ev d 69 53 [l0, l1, l2, l3, l4, l5] [.int s0] σ Q = Ev d 69 55 [l0, l1, l2, l3, some (.int s0), l5] [] σ Q := ev_S d69_53 rfl rfl rfl rfl
theorem d69_55 : decode (ab_C 69) 55 = .ok (.iinc 5 1, 3) := by decide +kernel
theorem e69_55 {d : Nat} {l0 l1 l2 l3 l4 : Option Value} {x : Int32} {σ : ab_St} {Q : Option Value → ab_St → Prop} : Ev d 69 55 [l0, l1, l2, l3, l4, some (.int x)] [] σ Q = Ev d 69 58 [l0, l1, l2, l3, l4, some (.int (x + 1))] [] σ Q := ev_S d69_55 rfl rfl rfl rfl
theorem d69_58 : decode (ab_C 69) 58 = .ok (.goto (-49), 3) := by decide +kernel
theorem e69_58 {d : Nat} {l0 l1 l2 l3 l4 l5 : Option Value} {σ : ab_St} {Q : Option Value → ab_St → Prop} : Ev d 69 58 [l0, l1, l2, l3, l4, l5] [] σ Q = Ev d 69 9 [l0, l1, l2, l3, l4, l5] [] σ Q := ev_J d69_58 rfl rfl rfl rfl rfl
theorem d69_61 : decode (ab_C 69) 61 = .ok (.iload 4, 2) := by decide +kernel
theorem e69_61 {d : Nat} {l0 l1 l2 l3 l5 : Option Value} {x : Int32} {σ : ab_St} {Q : Option Value → ab_St → Prop} : Ev d 69 61 [l0, l1, l2, l3, some (.int x), l5] [] σ Q = Ev d 69 63 [l0, l1, l2, l3, some (.int x), l5] [.int x] σ Q := ev_A1 d69_61 rfl
theorem d69_63 : decode (ab_C 69) 63 = .ok (.ireturn, 1) := by decide +kernel
theorem e69_63 {d : Nat} {l0 l1 l2 l3 l4 l5 : Option Value} {s0 : Int32} {σ : ab_St} {Q : Option Value → ab_St → Prop} : Ev d 69 63 [l0, l1, l2, l3, l4, l5] [.int s0] σ Q = Q (some (.int s0)) σ := ev_E d69_63 rfl rfl rfl rfl rfl rfl rfl
/-! SaidLeast.mostAt(II)I -/
theorem d70_0 : decode (ab_C 70) 0 = .ok (.iload_n 1, 1) := by decide +kernel
theorem e70_0 {d : Nat} {l0 l2 : Option Value} {x : Int32} {σ : ab_St} {Q : Option Value → ab_St → Prop} : Ev d 70 0 [l0, some (.int x), l2] [] σ Q = Ev d 70 1 [l0, some (.int x), l2] [.int x] σ Q := ev_A1 d70_0 rfl
theorem d70_1 : decode (ab_C 70) 1 = .ok (.ifCond .lt 9, 3) := by decide +kernel
theorem e70_1 {d : Nat} {l0 l1 l2 : Option Value} {s0 : Int32} {σ : ab_St} {Q : Option Value → ab_St → Prop} : Ev d 70 1 [l0, l1, l2] [.int s0] σ Q = if s0 < 0 then Ev d 70 10 [l0, l1, l2] [] σ Q else Ev d 70 4 [l0, l1, l2] [] σ Q := ev_B (c := s0 < 0) d70_1 rfl rfl rfl rfl rfl
theorem d70_4 : decode (ab_C 70) 4 = .ok (.iload_n 1, 1) := by decide +kernel
theorem e70_4 {d : Nat} {l0 l2 : Option Value} {x : Int32} {σ : ab_St} {Q : Option Value → ab_St → Prop} : Ev d 70 4 [l0, some (.int x), l2] [] σ Q = Ev d 70 5 [l0, some (.int x), l2] [.int x] σ Q := ev_A1 d70_4 rfl
theorem d70_5 : decode (ab_C 70) 5 = .ok (.bipush 72, 2) := by decide +kernel
theorem e70_5 {d : Nat} {l0 l1 l2 : Option Value} {s0 : Int32} {σ : ab_St} {Q : Option Value → ab_St → Prop} : Ev d 70 5 [l0, l1, l2] [.int s0] σ Q = Ev d 70 7 [l0, l1, l2] [.int 72, .int s0] σ Q := ev_A1 d70_5 rfl
theorem d70_7 : decode (ab_C 70) 7 = .ok (.if_icmp .le 6, 3) := by decide +kernel
theorem e70_7 {d : Nat} {l0 l1 l2 : Option Value} {s0 : Int32} {s1 : Int32} {σ : ab_St} {Q : Option Value → ab_St → Prop} : Ev d 70 7 [l0, l1, l2] [.int s0, .int s1] σ Q = if s1 ≤ s0 then Ev d 70 13 [l0, l1, l2] [] σ Q else Ev d 70 10 [l0, l1, l2] [] σ Q := ev_B (c := s1 ≤ s0) d70_7 rfl rfl rfl rfl rfl
theorem d70_10 : decode (ab_C 70) 10 = .ok (.bipush (-2), 2) := by decide +kernel
theorem e70_10 {d : Nat} {l0 l1 l2 : Option Value} {σ : ab_St} {Q : Option Value → ab_St → Prop} : Ev d 70 10 [l0, l1, l2] [] σ Q = Ev d 70 12 [l0, l1, l2] [.int (-2)] σ Q := ev_A1 d70_10 rfl
theorem d70_12 : decode (ab_C 70) 12 = .ok (.ireturn, 1) := by decide +kernel
theorem e70_12 {d : Nat} {l0 l1 l2 : Option Value} {s0 : Int32} {σ : ab_St} {Q : Option Value → ab_St → Prop} : Ev d 70 12 [l0, l1, l2] [.int s0] σ Q = Q (some (.int s0)) σ := ev_E d70_12 rfl rfl rfl rfl rfl rfl rfl
theorem d70_13 : decode (ab_C 70) 13 = .ok (.aload_n 0, 1) := by decide +kernel
theorem e70_13 {d : Nat} {l1 l2 : Option Value} {x : Nat} {σ : ab_St} {Q : Option Value → ab_St → Prop} : Ev d 70 13 [some (.ref x), l1, l2] [] σ Q = Ev d 70 14 [some (.ref x), l1, l2] [.ref x] σ Q := ev_A1 d70_13 rfl
theorem d70_14 : decode (ab_C 70) 14 = .ok (.getfield 54, 3) := by decide +kernel
theorem e70_14 {d : Nat} {l0 l1 l2 : Option Value} {s0 : Nat} {σ : ab_St} {Q : Option Value → ab_St → Prop} : Ev d 70 14 [l0, l1, l2] [.ref s0] σ Q = (ab_k s0 = 0 ∧ Ev d 70 17 [l0, l1, l2] [.ref (ab_r s0 7)] σ Q) := ev_Hc (c := ab_k s0 = 0) d70_14 rfl rfl rfl rfl rfl rfl rfl rfl
theorem d70_17 : decode (ab_C 70) 17 = .ok (.aload_n 0, 1) := by decide +kernel
theorem e70_17 {d : Nat} {l1 l2 : Option Value} {x : Nat} {s0 : Nat} {σ : ab_St} {Q : Option Value → ab_St → Prop} : Ev d 70 17 [some (.ref x), l1, l2] [.ref s0] σ Q = Ev d 70 18 [some (.ref x), l1, l2] [.ref x, .ref s0] σ Q := ev_A1 d70_17 rfl
theorem d70_18 : decode (ab_C 70) 18 = .ok (.getfield 26, 3) := by decide +kernel
theorem e70_18 {d : Nat} {l0 l1 l2 : Option Value} {s0 : Nat} {s1 : Nat} {σ : ab_St} {Q : Option Value → ab_St → Prop} : Ev d 70 18 [l0, l1, l2] [.ref s0, .ref s1] σ Q = (ab_k s0 = 0 ∧ Ev d 70 21 [l0, l1, l2] [.ref (ab_r s0 2), .ref s1] σ Q) := ev_Hc (c := ab_k s0 = 0) d70_18 rfl rfl rfl rfl rfl rfl rfl rfl
theorem d70_21 : decode (ab_C 70) 21 = .ok (.aload_n 0, 1) := by decide +kernel
theorem e70_21 {d : Nat} {l1 l2 : Option Value} {x : Nat} {s0 : Nat} {s1 : Nat} {σ : ab_St} {Q : Option Value → ab_St → Prop} : Ev d 70 21 [some (.ref x), l1, l2] [.ref s0, .ref s1] σ Q = Ev d 70 22 [some (.ref x), l1, l2] [.ref x, .ref s0, .ref s1] σ Q := ev_A1 d70_21 rfl
theorem d70_22 : decode (ab_C 70) 22 = .ok (.getfield 33, 3) := by decide +kernel
theorem e70_22 {d : Nat} {l0 l1 l2 : Option Value} {s0 : Nat} {s1 : Nat} {s2 : Nat} {σ : ab_St} {Q : Option Value → ab_St → Prop} : Ev d 70 22 [l0, l1, l2] [.ref s0, .ref s1, .ref s2] σ Q = (ab_k s0 = 0 ∧ Ev d 70 25 [l0, l1, l2] [.ref (ab_r s0 3), .ref s1, .ref s2] σ Q) := ev_Hc (c := ab_k s0 = 0) d70_22 rfl rfl rfl rfl rfl rfl rfl rfl
theorem d70_25 : decode (ab_C 70) 25 = .ok (.iload_n 1, 1) := by decide +kernel
theorem e70_25 {d : Nat} {l0 l2 : Option Value} {x : Int32} {s0 : Nat} {s1 : Nat} {s2 : Nat} {σ : ab_St} {Q : Option Value → ab_St → Prop} : Ev d 70 25 [l0, some (.int x), l2] [.ref s0, .ref s1, .ref s2] σ Q = Ev d 70 26 [l0, some (.int x), l2] [.int x, .ref s0, .ref s1, .ref s2] σ Q := ev_A1 d70_25 rfl
theorem d70_26 : decode (ab_C 70) 26 = .ok (.iload_n 2, 1) := by decide +kernel
theorem e70_26 {d : Nat} {l0 l1 : Option Value} {x : Int32} {s0 : Int32} {s1 : Nat} {s2 : Nat} {s3 : Nat} {σ : ab_St} {Q : Option Value → ab_St → Prop} : Ev d 70 26 [l0, l1, some (.int x)] [.int s0, .ref s1, .ref s2, .ref s3] σ Q = Ev d 70 27 [l0, l1, some (.int x)] [.int x, .int s0, .ref s1, .ref s2, .ref s3] σ Q := ev_A1 d70_26 rfl
theorem d70_27 : decode (ab_C 70) 27 = .ok (.invokevirtual 189, 3) := by decide +kernel
theorem e70_27 {d : Nat} {l0 l1 l2 : Option Value} {s0 : Int32} {s1 : Int32} {s2 : Nat} {s3 : Nat} {s4 : Nat} {σ : ab_St} {Q : Option Value → ab_St → Prop} : Ev (d + 1) 70 27 [l0, l1, l2] [.int s0, .int s1, .ref s2, .ref s3, .ref s4] σ Q = (ab_k s4 = 6 ∧ Ev d 71 0 [some (.ref s4), some (.ref s3), some (.ref s2), some (.int s1), some (.int s0), none, none, none, none, none] [] σ (fun r σ2 => Ev (d + 1) 70 30 [l0, l1, l2] (r.toList ++ []) σ2 Q)) := ev_KV (b := s4) (ls := [l0, l1, l2]) (st := [.int s0, .int s1, .ref s2, .ref s3, .ref s4]) (as := [.ref s3, .ref s2, .int s1, .int s0]) (rest := []) d70_27 rfl rfl rfl (Nat.le_of_ble_eq_true rfl) (Nat.le_of_ble_eq_true rfl) (Nat.le_of_ble_eq_true rfl) rfl rfl rfl rfl rfl rfl rfl
theorem d70_30 : decode (ab_C 70) 30 = .ok (.ireturn, 1) := by decide +kernel
theorem e70_30 {d : Nat} {l0 l1 l2 : Option Value} {s0 : Int32} {σ : ab_St} {Q : Option Value → ab_St → Prop} : Ev d 70 30 [l0, l1, l2] [.int s0] σ Q = Q (some (.int s0)) σ := ev_E d70_30 rfl rfl rfl rfl rfl rfl rfl
/-! SaidLeast$Orders.sayingOfFirst(LSaidLeast$Told;LSaidLeast$State;II)I -/
theorem d71_0 : decode (ab_C 71) 0 = .ok (.aload_n 0, 1) := by decide +kernel
theorem e71_0 {d : Nat} {l1 l2 l3 l4 l5 l6 l7 l8 l9 : Option Value} {x : Nat} {σ : ab_St} {Q : Option Value → ab_St → Prop} : Ev d 71 0 [some (.ref x), l1, l2, l3, l4, l5, l6, l7, l8, l9] [] σ Q = Ev d 71 1 [some (.ref x), l1, l2, l3, l4, l5, l6, l7, l8, l9] [.ref x] σ Q := ev_A1 d71_0 rfl
theorem d71_1 : decode (ab_C 71) 1 = .ok (.aload_n 1, 1) := by decide +kernel
theorem e71_1 {d : Nat} {l0 l2 l3 l4 l5 l6 l7 l8 l9 : Option Value} {x : Nat} {s0 : Nat} {σ : ab_St} {Q : Option Value → ab_St → Prop} : Ev d 71 1 [l0, some (.ref x), l2, l3, l4, l5, l6, l7, l8, l9] [.ref s0] σ Q = Ev d 71 2 [l0, some (.ref x), l2, l3, l4, l5, l6, l7, l8, l9] [.ref x, .ref s0] σ Q := ev_A1 d71_1 rfl
theorem d71_2 : decode (ab_C 71) 2 = .ok (.aload_n 2, 1) := by decide +kernel
theorem e71_2 {d : Nat} {l0 l1 l3 l4 l5 l6 l7 l8 l9 : Option Value} {x : Nat} {s0 : Nat} {s1 : Nat} {σ : ab_St} {Q : Option Value → ab_St → Prop} : Ev d 71 2 [l0, l1, some (.ref x), l3, l4, l5, l6, l7, l8, l9] [.ref s0, .ref s1] σ Q = Ev d 71 3 [l0, l1, some (.ref x), l3, l4, l5, l6, l7, l8, l9] [.ref x, .ref s0, .ref s1] σ Q := ev_A1 d71_2 rfl
theorem d71_3 : decode (ab_C 71) 3 = .ok (.invokevirtual 34, 3) := by decide +kernel
theorem e71_3 {d : Nat} {l0 l1 l2 l3 l4 l5 l6 l7 l8 l9 : Option Value} {s0 : Nat} {s1 : Nat} {s2 : Nat} {σ : ab_St} {Q : Option Value → ab_St → Prop} : Ev (d + 1) 71 3 [l0, l1, l2, l3, l4, l5, l6, l7, l8, l9] [.ref s0, .ref s1, .ref s2] σ Q = (ab_k s2 = 6 ∧ Ev d 63 0 [some (.ref s2), some (.ref s1), some (.ref s0), none] [] σ (fun r σ2 => Ev (d + 1) 71 6 [l0, l1, l2, l3, l4, l5, l6, l7, l8, l9] (r.toList ++ []) σ2 Q)) := ev_KV (b := s2) (ls := [l0, l1, l2, l3, l4, l5, l6, l7, l8, l9]) (st := [.ref s0, .ref s1, .ref s2]) (as := [.ref s1, .ref s0]) (rest := []) d71_3 rfl rfl rfl (Nat.le_of_ble_eq_true rfl) (Nat.le_of_ble_eq_true rfl) (Nat.le_of_ble_eq_true rfl) rfl rfl rfl rfl rfl rfl rfl
theorem d71_6 : decode (ab_C 71) 6 = .ok (.aload_n 0, 1) := by decide +kernel
theorem e71_6 {d : Nat} {l1 l2 l3 l4 l5 l6 l7 l8 l9 : Option Value} {x : Nat} {σ : ab_St} {Q : Option Value → ab_St → Prop} : Ev d 71 6 [some (.ref x), l1, l2, l3, l4, l5, l6, l7, l8, l9] [] σ Q = Ev d 71 7 [some (.ref x), l1, l2, l3, l4, l5, l6, l7, l8, l9] [.ref x] σ Q := ev_A1 d71_6 rfl
theorem d71_7 : decode (ab_C 71) 7 = .ok (.aload_n 1, 1) := by decide +kernel
theorem e71_7 {d : Nat} {l0 l2 l3 l4 l5 l6 l7 l8 l9 : Option Value} {x : Nat} {s0 : Nat} {σ : ab_St} {Q : Option Value → ab_St → Prop} : Ev d 71 7 [l0, some (.ref x), l2, l3, l4, l5, l6, l7, l8, l9] [.ref s0] σ Q = Ev d 71 8 [l0, some (.ref x), l2, l3, l4, l5, l6, l7, l8, l9] [.ref x, .ref s0] σ Q := ev_A1 d71_7 rfl
theorem d71_8 : decode (ab_C 71) 8 = .ok (.aload_n 2, 1) := by decide +kernel
theorem e71_8 {d : Nat} {l0 l1 l3 l4 l5 l6 l7 l8 l9 : Option Value} {x : Nat} {s0 : Nat} {s1 : Nat} {σ : ab_St} {Q : Option Value → ab_St → Prop} : Ev d 71 8 [l0, l1, some (.ref x), l3, l4, l5, l6, l7, l8, l9] [.ref s0, .ref s1] σ Q = Ev d 71 9 [l0, l1, some (.ref x), l3, l4, l5, l6, l7, l8, l9] [.ref x, .ref s0, .ref s1] σ Q := ev_A1 d71_8 rfl
theorem d71_9 : decode (ab_C 71) 9 = .ok (.iload_n 3, 1) := by decide +kernel
theorem e71_9 {d : Nat} {l0 l1 l2 l4 l5 l6 l7 l8 l9 : Option Value} {x : Int32} {s0 : Nat} {s1 : Nat} {s2 : Nat} {σ : ab_St} {Q : Option Value → ab_St → Prop} : Ev d 71 9 [l0, l1, l2, some (.int x), l4, l5, l6, l7, l8, l9] [.ref s0, .ref s1, .ref s2] σ Q = Ev d 71 10 [l0, l1, l2, some (.int x), l4, l5, l6, l7, l8, l9] [.int x, .ref s0, .ref s1, .ref s2] σ Q := ev_A1 d71_9 rfl
theorem d71_10 : decode (ab_C 71) 10 = .ok (.invokevirtual 38, 3) := by decide +kernel
theorem e71_10 {d : Nat} {l0 l1 l2 l3 l4 l5 l6 l7 l8 l9 : Option Value} {s0 : Int32} {s1 : Nat} {s2 : Nat} {s3 : Nat} {σ : ab_St} {Q : Option Value → ab_St → Prop} : Ev (d + 1) 71 10 [l0, l1, l2, l3, l4, l5, l6, l7, l8, l9] [.int s0, .ref s1, .ref s2, .ref s3] σ Q = (ab_k s3 = 6 ∧ Ev d 69 0 [some (.ref s3), some (.ref s2), some (.ref s1), some (.int s0), none, none] [] σ (fun r σ2 => Ev (d + 1) 71 13 [l0, l1, l2, l3, l4, l5, l6, l7, l8, l9] (r.toList ++ []) σ2 Q)) := ev_KV (b := s3) (ls := [l0, l1, l2, l3, l4, l5, l6, l7, l8, l9]) (st := [.int s0, .ref s1, .ref s2, .ref s3]) (as := [.ref s2, .ref s1, .int s0]) (rest := []) d71_10 rfl rfl rfl (Nat.le_of_ble_eq_true rfl) (Nat.le_of_ble_eq_true rfl) (Nat.le_of_ble_eq_true rfl) rfl rfl rfl rfl rfl rfl rfl
theorem d71_13 : decode (ab_C 71) 13 = .ok (.istore 5, 2) := by decide +kernel
theorem e71_13 {d : Nat} {l0 l1 l2 l3 l4 l5 l6 l7 l8 l9 : Option Value} {s0 : Int32} {σ : ab_St} {Q : Option Value → ab_St → Prop} : Ev d 71 13 [l0, l1, l2, l3, l4, l5, l6, l7, l8, l9] [.int s0] σ Q = Ev d 71 15 [l0, l1, l2, l3, l4, some (.int s0), l6, l7, l8, l9] [] σ Q := ev_S d71_13 rfl rfl rfl rfl
theorem d71_15 : decode (ab_C 71) 15 = .ok (.aload_n 0, 1) := by decide +kernel
theorem e71_15 {d : Nat} {l1 l2 l3 l4 l5 l6 l7 l8 l9 : Option Value} {x : Nat} {σ : ab_St} {Q : Option Value → ab_St → Prop} : Ev d 71 15 [some (.ref x), l1, l2, l3, l4, l5, l6, l7, l8, l9] [] σ Q = Ev d 71 16 [some (.ref x), l1, l2, l3, l4, l5, l6, l7, l8, l9] [.ref x] σ Q := ev_A1 d71_15 rfl
theorem d71_16 : decode (ab_C 71) 16 = .ok (.aload_n 1, 1) := by decide +kernel
theorem e71_16 {d : Nat} {l0 l2 l3 l4 l5 l6 l7 l8 l9 : Option Value} {x : Nat} {s0 : Nat} {σ : ab_St} {Q : Option Value → ab_St → Prop} : Ev d 71 16 [l0, some (.ref x), l2, l3, l4, l5, l6, l7, l8, l9] [.ref s0] σ Q = Ev d 71 17 [l0, some (.ref x), l2, l3, l4, l5, l6, l7, l8, l9] [.ref x, .ref s0] σ Q := ev_A1 d71_16 rfl
theorem d71_17 : decode (ab_C 71) 17 = .ok (.aload_n 2, 1) := by decide +kernel
theorem e71_17 {d : Nat} {l0 l1 l3 l4 l5 l6 l7 l8 l9 : Option Value} {x : Nat} {s0 : Nat} {s1 : Nat} {σ : ab_St} {Q : Option Value → ab_St → Prop} : Ev d 71 17 [l0, l1, some (.ref x), l3, l4, l5, l6, l7, l8, l9] [.ref s0, .ref s1] σ Q = Ev d 71 18 [l0, l1, some (.ref x), l3, l4, l5, l6, l7, l8, l9] [.ref x, .ref s0, .ref s1] σ Q := ev_A1 d71_17 rfl
theorem d71_18 : decode (ab_C 71) 18 = .ok (.iload_n 3, 1) := by decide +kernel
theorem e71_18 {d : Nat} {l0 l1 l2 l4 l5 l6 l7 l8 l9 : Option Value} {x : Int32} {s0 : Nat} {s1 : Nat} {s2 : Nat} {σ : ab_St} {Q : Option Value → ab_St → Prop} : Ev d 71 18 [l0, l1, l2, some (.int x), l4, l5, l6, l7, l8, l9] [.ref s0, .ref s1, .ref s2] σ Q = Ev d 71 19 [l0, l1, l2, some (.int x), l4, l5, l6, l7, l8, l9] [.int x, .ref s0, .ref s1, .ref s2] σ Q := ev_A1 d71_18 rfl
theorem d71_19 : decode (ab_C 71) 19 = .ok (.iload 5, 2) := by decide +kernel
theorem e71_19 {d : Nat} {l0 l1 l2 l3 l4 l6 l7 l8 l9 : Option Value} {x : Int32} {s0 : Int32} {s1 : Nat} {s2 : Nat} {s3 : Nat} {σ : ab_St} {Q : Option Value → ab_St → Prop} : Ev d 71 19 [l0, l1, l2, l3, l4, some (.int x), l6, l7, l8, l9] [.int s0, .ref s1, .ref s2, .ref s3] σ Q = Ev d 71 21 [l0, l1, l2, l3, l4, some (.int x), l6, l7, l8, l9] [.int x, .int s0, .ref s1, .ref s2, .ref s3] σ Q := ev_A1 d71_19 rfl
theorem d71_21 : decode (ab_C 71) 21 = .ok (.invokevirtual 42, 3) := by decide +kernel
theorem e71_21 {d : Nat} {l0 l1 l2 l3 l4 l5 l6 l7 l8 l9 : Option Value} {s0 : Int32} {s1 : Int32} {s2 : Nat} {s3 : Nat} {s4 : Nat} {σ : ab_St} {Q : Option Value → ab_St → Prop} : Ev (d + 1) 71 21 [l0, l1, l2, l3, l4, l5, l6, l7, l8, l9] [.int s0, .int s1, .ref s2, .ref s3, .ref s4] σ Q = (ab_k s4 = 6 ∧ Ev d 72 0 [some (.ref s4), some (.ref s3), some (.ref s2), some (.int s1), some (.int s0), none] [] σ (fun r σ2 => Ev (d + 1) 71 24 [l0, l1, l2, l3, l4, l5, l6, l7, l8, l9] (r.toList ++ []) σ2 Q)) := ev_KV (b := s4) (ls := [l0, l1, l2, l3, l4, l5, l6, l7, l8, l9]) (st := [.int s0, .int s1, .ref s2, .ref s3, .ref s4]) (as := [.ref s3, .ref s2, .int s1, .int s0]) (rest := []) d71_21 rfl rfl rfl (Nat.le_of_ble_eq_true rfl) (Nat.le_of_ble_eq_true rfl) (Nat.le_of_ble_eq_true rfl) rfl rfl rfl rfl rfl rfl rfl
theorem d71_24 : decode (ab_C 71) 24 = .ok (.aload_n 2, 1) := by decide +kernel
theorem e71_24 {d : Nat} {l0 l1 l3 l4 l5 l6 l7 l8 l9 : Option Value} {x : Nat} {σ : ab_St} {Q : Option Value → ab_St → Prop} : Ev d 71 24 [l0, l1, some (.ref x), l3, l4, l5, l6, l7, l8, l9] [] σ Q = Ev d 71 25 [l0, l1, some (.ref x), l3, l4, l5, l6, l7, l8, l9] [.ref x] σ Q := ev_A1 d71_24 rfl
theorem d71_25 : decode (ab_C 71) 25 = .ok (.getfield 46, 3) := by decide +kernel
theorem e71_25 {d : Nat} {l0 l1 l2 l3 l4 l5 l6 l7 l8 l9 : Option Value} {s0 : Nat} {σ : ab_St} {Q : Option Value → ab_St → Prop} : Ev d 71 25 [l0, l1, l2, l3, l4, l5, l6, l7, l8, l9] [.ref s0] σ Q = (ab_k s0 = 4 ∧ Ev d 71 28 [l0, l1, l2, l3, l4, l5, l6, l7, l8, l9] [.int (σ.1 s0 2)] σ Q) := ev_Hc (c := ab_k s0 = 4) d71_25 rfl rfl rfl rfl rfl rfl rfl rfl
theorem d71_28 : decode (ab_C 71) 28 = .ok (.istore 6, 2) := by decide +kernel
theorem e71_28 {d : Nat} {l0 l1 l2 l3 l4 l5 l6 l7 l8 l9 : Option Value} {s0 : Int32} {σ : ab_St} {Q : Option Value → ab_St → Prop} : Ev d 71 28 [l0, l1, l2, l3, l4, l5, l6, l7, l8, l9] [.int s0] σ Q = Ev d 71 30 [l0, l1, l2, l3, l4, l5, some (.int s0), l7, l8, l9] [] σ Q := ev_S d71_28 rfl rfl rfl rfl
theorem d71_30 : decode (ab_C 71) 30 = .ok (.aload_n 2, 1) := by decide +kernel
theorem e71_30 {d : Nat} {l0 l1 l3 l4 l5 l6 l7 l8 l9 : Option Value} {x : Nat} {σ : ab_St} {Q : Option Value → ab_St → Prop} : Ev d 71 30 [l0, l1, some (.ref x), l3, l4, l5, l6, l7, l8, l9] [] σ Q = Ev d 71 31 [l0, l1, some (.ref x), l3, l4, l5, l6, l7, l8, l9] [.ref x] σ Q := ev_A1 d71_30 rfl
theorem d71_31 : decode (ab_C 71) 31 = .ok (.getfield 52, 3) := by decide +kernel
theorem e71_31 {d : Nat} {l0 l1 l2 l3 l4 l5 l6 l7 l8 l9 : Option Value} {s0 : Nat} {σ : ab_St} {Q : Option Value → ab_St → Prop} : Ev d 71 31 [l0, l1, l2, l3, l4, l5, l6, l7, l8, l9] [.ref s0] σ Q = (ab_k s0 = 4 ∧ Ev d 71 34 [l0, l1, l2, l3, l4, l5, l6, l7, l8, l9] [.int (σ.1 s0 3)] σ Q) := ev_Hc (c := ab_k s0 = 4) d71_31 rfl rfl rfl rfl rfl rfl rfl rfl
theorem d71_34 : decode (ab_C 71) 34 = .ok (.istore 7, 2) := by decide +kernel
theorem e71_34 {d : Nat} {l0 l1 l2 l3 l4 l5 l6 l7 l8 l9 : Option Value} {s0 : Int32} {σ : ab_St} {Q : Option Value → ab_St → Prop} : Ev d 71 34 [l0, l1, l2, l3, l4, l5, l6, l7, l8, l9] [.int s0] σ Q = Ev d 71 36 [l0, l1, l2, l3, l4, l5, l6, some (.int s0), l8, l9] [] σ Q := ev_S d71_34 rfl rfl rfl rfl
theorem d71_36 : decode (ab_C 71) 36 = .ok (.iconst 0, 1) := by decide +kernel
theorem e71_36 {d : Nat} {l0 l1 l2 l3 l4 l5 l6 l7 l8 l9 : Option Value} {σ : ab_St} {Q : Option Value → ab_St → Prop} : Ev d 71 36 [l0, l1, l2, l3, l4, l5, l6, l7, l8, l9] [] σ Q = Ev d 71 37 [l0, l1, l2, l3, l4, l5, l6, l7, l8, l9] [.int 0] σ Q := ev_A1 d71_36 rfl
theorem d71_37 : decode (ab_C 71) 37 = .ok (.istore 8, 2) := by decide +kernel
theorem e71_37 {d : Nat} {l0 l1 l2 l3 l4 l5 l6 l7 l8 l9 : Option Value} {s0 : Int32} {σ : ab_St} {Q : Option Value → ab_St → Prop} : Ev d 71 37 [l0, l1, l2, l3, l4, l5, l6, l7, l8, l9] [.int s0] σ Q = Ev d 71 39 [l0, l1, l2, l3, l4, l5, l6, l7, some (.int s0), l9] [] σ Q := ev_S d71_37 rfl rfl rfl rfl
theorem d71_39 : decode (ab_C 71) 39 = .ok (.iload 8, 2) := by decide +kernel
theorem e71_39 {d : Nat} {l0 l1 l2 l3 l4 l5 l6 l7 l9 : Option Value} {x : Int32} {σ : ab_St} {Q : Option Value → ab_St → Prop} : Ev d 71 39 [l0, l1, l2, l3, l4, l5, l6, l7, some (.int x), l9] [] σ Q = Ev d 71 41 [l0, l1, l2, l3, l4, l5, l6, l7, some (.int x), l9] [.int x] σ Q := ev_A1 d71_39 rfl
theorem d71_41 : decode (ab_C 71) 41 = .ok (.bipush 8, 2) := by decide +kernel
theorem e71_41 {d : Nat} {l0 l1 l2 l3 l4 l5 l6 l7 l8 l9 : Option Value} {s0 : Int32} {σ : ab_St} {Q : Option Value → ab_St → Prop} : Ev d 71 41 [l0, l1, l2, l3, l4, l5, l6, l7, l8, l9] [.int s0] σ Q = Ev d 71 43 [l0, l1, l2, l3, l4, l5, l6, l7, l8, l9] [.int 8, .int s0] σ Q := ev_A1 d71_41 rfl
theorem d71_43 : decode (ab_C 71) 43 = .ok (.if_icmp .ge 67, 3) := by decide +kernel
theorem e71_43 {d : Nat} {l0 l1 l2 l3 l4 l5 l6 l7 l8 l9 : Option Value} {s0 : Int32} {s1 : Int32} {σ : ab_St} {Q : Option Value → ab_St → Prop} : Ev d 71 43 [l0, l1, l2, l3, l4, l5, l6, l7, l8, l9] [.int s0, .int s1] σ Q = if s0 ≤ s1 then Ev d 71 110 [l0, l1, l2, l3, l4, l5, l6, l7, l8, l9] [] σ Q else Ev d 71 46 [l0, l1, l2, l3, l4, l5, l6, l7, l8, l9] [] σ Q := ev_B (c := s0 ≤ s1) d71_43 rfl rfl rfl rfl rfl
theorem d71_46 : decode (ab_C 71) 46 = .ok (.aload_n 0, 1) := by decide +kernel
theorem e71_46 {d : Nat} {l1 l2 l3 l4 l5 l6 l7 l8 l9 : Option Value} {x : Nat} {σ : ab_St} {Q : Option Value → ab_St → Prop} : Ev d 71 46 [some (.ref x), l1, l2, l3, l4, l5, l6, l7, l8, l9] [] σ Q = Ev d 71 47 [some (.ref x), l1, l2, l3, l4, l5, l6, l7, l8, l9] [.ref x] σ Q := ev_A1 d71_46 rfl
theorem d71_47 : decode (ab_C 71) 47 = .ok (.getfield 28, 3) := by decide +kernel
theorem e71_47 {d : Nat} {l0 l1 l2 l3 l4 l5 l6 l7 l8 l9 : Option Value} {s0 : Nat} {σ : ab_St} {Q : Option Value → ab_St → Prop} : Ev d 71 47 [l0, l1, l2, l3, l4, l5, l6, l7, l8, l9] [.ref s0] σ Q = (ab_k s0 = 6 ∧ Ev d 71 50 [l0, l1, l2, l3, l4, l5, l6, l7, l8, l9] [.ref (ab_r s0 4)] σ Q) := ev_Hc (c := ab_k s0 = 6) d71_47 rfl rfl rfl rfl rfl rfl rfl rfl
theorem d71_50 : decode (ab_C 71) 50 = .ok (.iload 6, 2) := by decide +kernel
theorem e71_50 {d : Nat} {l0 l1 l2 l3 l4 l5 l7 l8 l9 : Option Value} {x : Int32} {s0 : Nat} {σ : ab_St} {Q : Option Value → ab_St → Prop} : Ev d 71 50 [l0, l1, l2, l3, l4, l5, some (.int x), l7, l8, l9] [.ref s0] σ Q = Ev d 71 52 [l0, l1, l2, l3, l4, l5, some (.int x), l7, l8, l9] [.int x, .ref s0] σ Q := ev_A1 d71_50 rfl
theorem d71_52 : decode (ab_C 71) 52 = .ok (.iaload, 1) := by decide +kernel
theorem e71_52 {d : Nat} {l0 l1 l2 l3 l4 l5 l6 l7 l8 l9 : Option Value} {s0 : Int32} {s1 : Nat} {σ : ab_St} {Q : Option Value → ab_St → Prop} : Ev d 71 52 [l0, l1, l2, l3, l4, l5, l6, l7, l8, l9] [.int s0, .ref s1] σ Q = ((ab_k s1 = 100 ∧ ab_in s0 (ab_n s1)) ∧ Ev d 71 53 [l0, l1, l2, l3, l4, l5, l6, l7, l8, l9] [.int (σ.1 s1 s0.toNatClampNeg)] σ Q) := ev_Hc (c := ab_k s1 = 100 ∧ ab_in s0 (ab_n s1)) d71_52 rfl rfl rfl rfl rfl rfl rfl rfl
theorem d71_53 : decode (ab_C 71) 53 = .ok (.iload 5, 2) := by decide +kernel
theorem e71_53 {d : Nat} {l0 l1 l2 l3 l4 l6 l7 l8 l9 : Option Value} {x : Int32} {s0 : Int32} {σ : ab_St} {Q : Option Value → ab_St → Prop} : Ev d 71 53 [l0, l1, l2, l3, l4, some (.int x), l6, l7, l8, l9] [.int s0] σ Q = Ev d 71 55 [l0, l1, l2, l3, l4, some (.int x), l6, l7, l8, l9] [.int x, .int s0] σ Q := ev_A1 d71_53 rfl
theorem d71_55 : decode (ab_C 71) 55 = .ok (.if_icmp .ne 8, 3) := by decide +kernel
theorem e71_55 {d : Nat} {l0 l1 l2 l3 l4 l5 l6 l7 l8 l9 : Option Value} {s0 : Int32} {s1 : Int32} {σ : ab_St} {Q : Option Value → ab_St → Prop} : Ev d 71 55 [l0, l1, l2, l3, l4, l5, l6, l7, l8, l9] [.int s0, .int s1] σ Q = if s1 = s0 then Ev d 71 58 [l0, l1, l2, l3, l4, l5, l6, l7, l8, l9] [] σ Q else Ev d 71 63 [l0, l1, l2, l3, l4, l5, l6, l7, l8, l9] [] σ Q := ev_B (c := s1 = s0) d71_55 rfl rfl rfl rfl rfl
theorem d71_58 : decode (ab_C 71) 58 = .ok (.bipush (-9), 2) := by decide +kernel
theorem e71_58 {d : Nat} {l0 l1 l2 l3 l4 l5 l6 l7 l8 l9 : Option Value} {σ : ab_St} {Q : Option Value → ab_St → Prop} : Ev d 71 58 [l0, l1, l2, l3, l4, l5, l6, l7, l8, l9] [] σ Q = Ev d 71 60 [l0, l1, l2, l3, l4, l5, l6, l7, l8, l9] [.int (-9)] σ Q := ev_A1 d71_58 rfl
theorem d71_60 : decode (ab_C 71) 60 = .ok (.goto 12, 3) := by decide +kernel
theorem e71_60 {d : Nat} {l0 l1 l2 l3 l4 l5 l6 l7 l8 l9 : Option Value} {s0 : Int32} {σ : ab_St} {Q : Option Value → ab_St → Prop} : Ev d 71 60 [l0, l1, l2, l3, l4, l5, l6, l7, l8, l9] [.int s0] σ Q = Ev d 71 72 [l0, l1, l2, l3, l4, l5, l6, l7, l8, l9] [.int s0] σ Q := ev_J d71_60 rfl rfl rfl rfl rfl
theorem d71_63 : decode (ab_C 71) 63 = .ok (.aload_n 0, 1) := by decide +kernel
theorem e71_63 {d : Nat} {l1 l2 l3 l4 l5 l6 l7 l8 l9 : Option Value} {x : Nat} {σ : ab_St} {Q : Option Value → ab_St → Prop} : Ev d 71 63 [some (.ref x), l1, l2, l3, l4, l5, l6, l7, l8, l9] [] σ Q = Ev d 71 64 [some (.ref x), l1, l2, l3, l4, l5, l6, l7, l8, l9] [.ref x] σ Q := ev_A1 d71_63 rfl
theorem d71_64 : decode (ab_C 71) 64 = .ok (.aload_n 1, 1) := by decide +kernel
theorem e71_64 {d : Nat} {l0 l2 l3 l4 l5 l6 l7 l8 l9 : Option Value} {x : Nat} {s0 : Nat} {σ : ab_St} {Q : Option Value → ab_St → Prop} : Ev d 71 64 [l0, some (.ref x), l2, l3, l4, l5, l6, l7, l8, l9] [.ref s0] σ Q = Ev d 71 65 [l0, some (.ref x), l2, l3, l4, l5, l6, l7, l8, l9] [.ref x, .ref s0] σ Q := ev_A1 d71_64 rfl
theorem d71_65 : decode (ab_C 71) 65 = .ok (.iload 6, 2) := by decide +kernel
theorem e71_65 {d : Nat} {l0 l1 l2 l3 l4 l5 l7 l8 l9 : Option Value} {x : Int32} {s0 : Nat} {s1 : Nat} {σ : ab_St} {Q : Option Value → ab_St → Prop} : Ev d 71 65 [l0, l1, l2, l3, l4, l5, some (.int x), l7, l8, l9] [.ref s0, .ref s1] σ Q = Ev d 71 67 [l0, l1, l2, l3, l4, l5, some (.int x), l7, l8, l9] [.int x, .ref s0, .ref s1] σ Q := ev_A1 d71_65 rfl
theorem d71_67 : decode (ab_C 71) 67 = .ok (.iload 7, 2) := by decide +kernel
theorem e71_67 {d : Nat} {l0 l1 l2 l3 l4 l5 l6 l8 l9 : Option Value} {x : Int32} {s0 : Int32} {s1 : Nat} {s2 : Nat} {σ : ab_St} {Q : Option Value → ab_St → Prop} : Ev d 71 67 [l0, l1, l2, l3, l4, l5, l6, some (.int x), l8, l9] [.int s0, .ref s1, .ref s2] σ Q = Ev d 71 69 [l0, l1, l2, l3, l4, l5, l6, some (.int x), l8, l9] [.int x, .int s0, .ref s1, .ref s2] σ Q := ev_A1 d71_67 rfl
theorem d71_69 : decode (ab_C 71) 69 = .ok (.invokevirtual 55, 3) := by decide +kernel
theorem e71_69 {d : Nat} {l0 l1 l2 l3 l4 l5 l6 l7 l8 l9 : Option Value} {s0 : Int32} {s1 : Int32} {s2 : Nat} {s3 : Nat} {σ : ab_St} {Q : Option Value → ab_St → Prop} : Ev (d + 1) 71 69 [l0, l1, l2, l3, l4, l5, l6, l7, l8, l9] [.int s0, .int s1, .ref s2, .ref s3] σ Q = (ab_k s3 = 6 ∧ Ev d 74 0 [some (.ref s3), some (.ref s2), some (.int s1), some (.int s0), none] [] σ (fun r σ2 => Ev (d + 1) 71 72 [l0, l1, l2, l3, l4, l5, l6, l7, l8, l9] (r.toList ++ []) σ2 Q)) := ev_KV (b := s3) (ls := [l0, l1, l2, l3, l4, l5, l6, l7, l8, l9]) (st := [.int s0, .int s1, .ref s2, .ref s3]) (as := [.ref s2, .int s1, .int s0]) (rest := []) d71_69 rfl rfl rfl (Nat.le_of_ble_eq_true rfl) (Nat.le_of_ble_eq_true rfl) (Nat.le_of_ble_eq_true rfl) rfl rfl rfl rfl rfl rfl rfl
theorem d71_72 : decode (ab_C 71) 72 = .ok (.istore 9, 2) := by decide +kernel
theorem e71_72 {d : Nat} {l0 l1 l2 l3 l4 l5 l6 l7 l8 l9 : Option Value} {s0 : Int32} {σ : ab_St} {Q : Option Value → ab_St → Prop} : Ev d 71 72 [l0, l1, l2, l3, l4, l5, l6, l7, l8, l9] [.int s0] σ Q = Ev d 71 74 [l0, l1, l2, l3, l4, l5, l6, l7, l8, some (.int s0)] [] σ Q := ev_S d71_72 rfl rfl rfl rfl
theorem d71_74 : decode (ab_C 71) 74 = .ok (.iload 9, 2) := by decide +kernel
theorem e71_74 {d : Nat} {l0 l1 l2 l3 l4 l5 l6 l7 l8 : Option Value} {x : Int32} {σ : ab_St} {Q : Option Value → ab_St → Prop} : Ev d 71 74 [l0, l1, l2, l3, l4, l5, l6, l7, l8, some (.int x)] [] σ Q = Ev d 71 76 [l0, l1, l2, l3, l4, l5, l6, l7, l8, some (.int x)] [.int x] σ Q := ev_A1 d71_74 rfl
theorem d71_76 : decode (ab_C 71) 76 = .ok (.bipush (-9), 2) := by decide +kernel
theorem e71_76 {d : Nat} {l0 l1 l2 l3 l4 l5 l6 l7 l8 l9 : Option Value} {s0 : Int32} {σ : ab_St} {Q : Option Value → ab_St → Prop} : Ev d 71 76 [l0, l1, l2, l3, l4, l5, l6, l7, l8, l9] [.int s0] σ Q = Ev d 71 78 [l0, l1, l2, l3, l4, l5, l6, l7, l8, l9] [.int (-9), .int s0] σ Q := ev_A1 d71_76 rfl
theorem d71_78 : decode (ab_C 71) 78 = .ok (.if_icmp .eq 10, 3) := by decide +kernel
theorem e71_78 {d : Nat} {l0 l1 l2 l3 l4 l5 l6 l7 l8 l9 : Option Value} {s0 : Int32} {s1 : Int32} {σ : ab_St} {Q : Option Value → ab_St → Prop} : Ev d 71 78 [l0, l1, l2, l3, l4, l5, l6, l7, l8, l9] [.int s0, .int s1] σ Q = if s1 = s0 then Ev d 71 88 [l0, l1, l2, l3, l4, l5, l6, l7, l8, l9] [] σ Q else Ev d 71 81 [l0, l1, l2, l3, l4, l5, l6, l7, l8, l9] [] σ Q := ev_B (c := s1 = s0) d71_78 rfl rfl rfl rfl rfl
theorem d71_81 : decode (ab_C 71) 81 = .ok (.iload 8, 2) := by decide +kernel
theorem e71_81 {d : Nat} {l0 l1 l2 l3 l4 l5 l6 l7 l9 : Option Value} {x : Int32} {σ : ab_St} {Q : Option Value → ab_St → Prop} : Ev d 71 81 [l0, l1, l2, l3, l4, l5, l6, l7, some (.int x), l9] [] σ Q = Ev d 71 83 [l0, l1, l2, l3, l4, l5, l6, l7, some (.int x), l9] [.int x] σ Q := ev_A1 d71_81 rfl
theorem d71_83 : decode (ab_C 71) 83 = .ok (.iload 4, 2) := by decide +kernel
theorem e71_83 {d : Nat} {l0 l1 l2 l3 l5 l6 l7 l8 l9 : Option Value} {x : Int32} {s0 : Int32} {σ : ab_St} {Q : Option Value → ab_St → Prop} : Ev d 71 83 [l0, l1, l2, l3, some (.int x), l5, l6, l7, l8, l9] [.int s0] σ Q = Ev d 71 85 [l0, l1, l2, l3, some (.int x), l5, l6, l7, l8, l9] [.int x, .int s0] σ Q := ev_A1 d71_83 rfl
theorem d71_85 : decode (ab_C 71) 85 = .ok (.if_icmp .ne 6, 3) := by decide +kernel
theorem e71_85 {d : Nat} {l0 l1 l2 l3 l4 l5 l6 l7 l8 l9 : Option Value} {s0 : Int32} {s1 : Int32} {σ : ab_St} {Q : Option Value → ab_St → Prop} : Ev d 71 85 [l0, l1, l2, l3, l4, l5, l6, l7, l8, l9] [.int s0, .int s1] σ Q = if s1 = s0 then Ev d 71 88 [l0, l1, l2, l3, l4, l5, l6, l7, l8, l9] [] σ Q else Ev d 71 91 [l0, l1, l2, l3, l4, l5, l6, l7, l8, l9] [] σ Q := ev_B (c := s1 = s0) d71_85 rfl rfl rfl rfl rfl
theorem d71_88 : decode (ab_C 71) 88 = .ok (.iload 9, 2) := by decide +kernel
theorem e71_88 {d : Nat} {l0 l1 l2 l3 l4 l5 l6 l7 l8 : Option Value} {x : Int32} {σ : ab_St} {Q : Option Value → ab_St → Prop} : Ev d 71 88 [l0, l1, l2, l3, l4, l5, l6, l7, l8, some (.int x)] [] σ Q = Ev d 71 90 [l0, l1, l2, l3, l4, l5, l6, l7, l8, some (.int x)] [.int x] σ Q := ev_A1 d71_88 rfl
theorem d71_90 : decode (ab_C 71) 90 = .ok (.ireturn, 1) := by decide +kernel
theorem e71_90 {d : Nat} {l0 l1 l2 l3 l4 l5 l6 l7 l8 l9 : Option Value} {s0 : Int32} {σ : ab_St} {Q : Option Value → ab_St → Prop} : Ev d 71 90 [l0, l1, l2, l3, l4, l5, l6, l7, l8, l9] [.int s0] σ Q = Q (some (.int s0)) σ := ev_E d71_90 rfl rfl rfl rfl rfl rfl rfl
theorem d71_91 : decode (ab_C 71) 91 = .ok (.iload 6, 2) := by decide +kernel
theorem e71_91 {d : Nat} {l0 l1 l2 l3 l4 l5 l7 l8 l9 : Option Value} {x : Int32} {σ : ab_St} {Q : Option Value → ab_St → Prop} : Ev d 71 91 [l0, l1, l2, l3, l4, l5, some (.int x), l7, l8, l9] [] σ Q = Ev d 71 93 [l0, l1, l2, l3, l4, l5, some (.int x), l7, l8, l9] [.int x] σ Q := ev_A1 d71_91 rfl
theorem d71_93 : decode (ab_C 71) 93 = .ok (.iconst 1, 1) := by decide +kernel
theorem e71_93 {d : Nat} {l0 l1 l2 l3 l4 l5 l6 l7 l8 l9 : Option Value} {s0 : Int32} {σ : ab_St} {Q : Option Value → ab_St → Prop} : Ev d 71 93 [l0, l1, l2, l3, l4, l5, l6, l7, l8, l9] [.int s0] σ Q = Ev d 71 94 [l0, l1, l2, l3, l4, l5, l6, l7, l8, l9] [.int 1, .int s0] σ Q := ev_A1 d71_93 rfl
theorem d71_94 : decode (ab_C 71) 94 = .ok (.iload 9, 2) := by decide +kernel
theorem e71_94 {d : Nat} {l0 l1 l2 l3 l4 l5 l6 l7 l8 : Option Value} {x : Int32} {s0 : Int32} {s1 : Int32} {σ : ab_St} {Q : Option Value → ab_St → Prop} : Ev d 71 94 [l0, l1, l2, l3, l4, l5, l6, l7, l8, some (.int x)] [.int s0, .int s1] σ Q = Ev d 71 96 [l0, l1, l2, l3, l4, l5, l6, l7, l8, some (.int x)] [.int x, .int s0, .int s1] σ Q := ev_A1 d71_94 rfl
theorem d71_96 : decode (ab_C 71) 96 = .ok (.ishl, 1) := by decide +kernel
theorem e71_96 {d : Nat} {l0 l1 l2 l3 l4 l5 l6 l7 l8 l9 : Option Value} {s0 : Int32} {s1 : Int32} {s2 : Int32} {σ : ab_St} {Q : Option Value → ab_St → Prop} : Ev d 71 96 [l0, l1, l2, l3, l4, l5, l6, l7, l8, l9] [.int s0, .int s1, .int s2] σ Q = Ev d 71 97 [l0, l1, l2, l3, l4, l5, l6, l7, l8, l9] [.int (s1 <<< (s0 &&& 31)), .int s2] σ Q := ev_A2 d71_96 rfl rfl
theorem d71_97 : decode (ab_C 71) 97 = .ok (.ior, 1) := by decide +kernel
theorem e71_97 {d : Nat} {l0 l1 l2 l3 l4 l5 l6 l7 l8 l9 : Option Value} {s0 : Int32} {s1 : Int32} {σ : ab_St} {Q : Option Value → ab_St → Prop} : Ev d 71 97 [l0, l1, l2, l3, l4, l5, l6, l7, l8, l9] [.int s0, .int s1] σ Q = Ev d 71 98 [l0, l1, l2, l3, l4, l5, l6, l7, l8, l9] [.int (s1 ||| s0)] σ Q := ev_A2 d71_97 rfl rfl
theorem d71_98 : decode (ab_C 71) 98 = .ok (.istore 6, 2) := by decide +kernel
theorem e71_98 {d : Nat} {l0 l1 l2 l3 l4 l5 l6 l7 l8 l9 : Option Value} {s0 : Int32} {σ : ab_St} {Q : Option Value → ab_St → Prop} : Ev d 71 98 [l0, l1, l2, l3, l4, l5, l6, l7, l8, l9] [.int s0] σ Q = Ev d 71 100 [l0, l1, l2, l3, l4, l5, some (.int s0), l7, l8, l9] [] σ Q := ev_S d71_98 rfl rfl rfl rfl
theorem d71_100 : decode (ab_C 71) 100 = .ok (.iload 9, 2) := by decide +kernel
theorem e71_100 {d : Nat} {l0 l1 l2 l3 l4 l5 l6 l7 l8 : Option Value} {x : Int32} {σ : ab_St} {Q : Option Value → ab_St → Prop} : Ev d 71 100 [l0, l1, l2, l3, l4, l5, l6, l7, l8, some (.int x)] [] σ Q = Ev d 71 102 [l0, l1, l2, l3, l4, l5, l6, l7, l8, some (.int x)] [.int x] σ Q := ev_A1 d71_100 rfl
theorem d71_102 : decode (ab_C 71) 102 = .ok (.istore 7, 2) := by decide +kernel
theorem e71_102 {d : Nat} {l0 l1 l2 l3 l4 l5 l6 l7 l8 l9 : Option Value} {s0 : Int32} {σ : ab_St} {Q : Option Value → ab_St → Prop} : Ev d 71 102 [l0, l1, l2, l3, l4, l5, l6, l7, l8, l9] [.int s0] σ Q = Ev d 71 104 [l0, l1, l2, l3, l4, l5, l6, some (.int s0), l8, l9] [] σ Q := ev_S d71_102 rfl rfl rfl rfl
theorem d71_104 : decode (ab_C 71) 104 = .ok (.iinc 8 1, 3) := by decide +kernel
theorem e71_104 {d : Nat} {l0 l1 l2 l3 l4 l5 l6 l7 l9 : Option Value} {x : Int32} {σ : ab_St} {Q : Option Value → ab_St → Prop} : Ev d 71 104 [l0, l1, l2, l3, l4, l5, l6, l7, some (.int x), l9] [] σ Q = Ev d 71 107 [l0, l1, l2, l3, l4, l5, l6, l7, some (.int (x + 1)), l9] [] σ Q := ev_S d71_104 rfl rfl rfl rfl
theorem d71_107 : decode (ab_C 71) 107 = .ok (.goto (-68), 3) := by decide +kernel
theorem e71_107 {d : Nat} {l0 l1 l2 l3 l4 l5 l6 l7 l8 l9 : Option Value} {σ : ab_St} {Q : Option Value → ab_St → Prop} : Ev d 71 107 [l0, l1, l2, l3, l4, l5, l6, l7, l8, l9] [] σ Q = Ev d 71 39 [l0, l1, l2, l3, l4, l5, l6, l7, l8, l9] [] σ Q := ev_J d71_107 rfl rfl rfl rfl rfl
theorem d71_110 : decode (ab_C 71) 110 = .ok (.bipush (-9), 2) := by decide +kernel
theorem e71_110 {d : Nat} {l0 l1 l2 l3 l4 l5 l6 l7 l8 l9 : Option Value} {σ : ab_St} {Q : Option Value → ab_St → Prop} : Ev d 71 110 [l0, l1, l2, l3, l4, l5, l6, l7, l8, l9] [] σ Q = Ev d 71 112 [l0, l1, l2, l3, l4, l5, l6, l7, l8, l9] [.int (-9)] σ Q := ev_A1 d71_110 rfl
theorem d71_112 : decode (ab_C 71) 112 = .ok (.ireturn, 1) := by decide +kernel
theorem e71_112 {d : Nat} {l0 l1 l2 l3 l4 l5 l6 l7 l8 l9 : Option Value} {s0 : Int32} {σ : ab_St} {Q : Option Value → ab_St → Prop} : Ev d 71 112 [l0, l1, l2, l3, l4, l5, l6, l7, l8, l9] [.int s0] σ Q = Q (some (.int s0)) σ := ev_E d71_112 rfl rfl rfl rfl rfl rfl rfl
/-! SaidLeast$Orders.markGood(LSaidLeast$Told;LSaidLeast$State;II)V -/
theorem d72_0 : decode (ab_C 72) 0 = .ok (.iconst 1, 1) := by decide +kernel
theorem e72_0 {d : Nat} {l0 l1 l2 l3 l4 l5 : Option Value} {σ : ab_St} {Q : Option Value → ab_St → Prop} : Ev d 72 0 [l0, l1, l2, l3, l4, l5] [] σ Q = Ev d 72 1 [l0, l1, l2, l3, l4, l5] [.int 1] σ Q := ev_A1 d72_0 rfl
theorem d72_1 : decode (ab_C 72) 1 = .ok (.aload_n 1, 1) := by decide +kernel
theorem e72_1 {d : Nat} {l0 l2 l3 l4 l5 : Option Value} {x : Nat} {s0 : Int32} {σ : ab_St} {Q : Option Value → ab_St → Prop} : Ev d 72 1 [l0, some (.ref x), l2, l3, l4, l5] [.int s0] σ Q = Ev d 72 2 [l0, some (.ref x), l2, l3, l4, l5] [.ref x, .int s0] σ Q := ev_A1 d72_1 rfl
theorem d72_2 : decode (ab_C 72) 2 = .ok (.getfield 59, 3) := by decide +kernel
theorem e72_2 {d : Nat} {l0 l1 l2 l3 l4 l5 : Option Value} {s0 : Nat} {s1 : Int32} {σ : ab_St} {Q : Option Value → ab_St → Prop} : Ev d 72 2 [l0, l1, l2, l3, l4, l5] [.ref s0, .int s1] σ Q = (ab_k s0 = 3 ∧ Ev d 72 5 [l0, l1, l2, l3, l4, l5] [.int (σ.1 s0 5), .int s1] σ Q) := ev_Hc (c := ab_k s0 = 3) d72_2 rfl rfl rfl rfl rfl rfl rfl rfl
theorem d72_5 : decode (ab_C 72) 5 = .ok (.ishl, 1) := by decide +kernel
theorem e72_5 {d : Nat} {l0 l1 l2 l3 l4 l5 : Option Value} {s0 : Int32} {s1 : Int32} {σ : ab_St} {Q : Option Value → ab_St → Prop} : Ev d 72 5 [l0, l1, l2, l3, l4, l5] [.int s0, .int s1] σ Q = Ev d 72 6 [l0, l1, l2, l3, l4, l5] [.int (s1 <<< (s0 &&& 31))] σ Q := ev_A2 d72_5 rfl rfl
theorem d72_6 : decode (ab_C 72) 6 = .ok (.iconst 1, 1) := by decide +kernel
theorem e72_6 {d : Nat} {l0 l1 l2 l3 l4 l5 : Option Value} {s0 : Int32} {σ : ab_St} {Q : Option Value → ab_St → Prop} : Ev d 72 6 [l0, l1, l2, l3, l4, l5] [.int s0] σ Q = Ev d 72 7 [l0, l1, l2, l3, l4, l5] [.int 1, .int s0] σ Q := ev_A1 d72_6 rfl
theorem d72_7 : decode (ab_C 72) 7 = .ok (.isub, 1) := by decide +kernel
theorem e72_7 {d : Nat} {l0 l1 l2 l3 l4 l5 : Option Value} {s0 : Int32} {s1 : Int32} {σ : ab_St} {Q : Option Value → ab_St → Prop} : Ev d 72 7 [l0, l1, l2, l3, l4, l5] [.int s0, .int s1] σ Q = Ev d 72 8 [l0, l1, l2, l3, l4, l5] [.int (s1 - s0)] σ Q := ev_A2 d72_7 rfl rfl
theorem d72_8 : decode (ab_C 72) 8 = .ok (.istore 5, 2) := by decide +kernel
theorem e72_8 {d : Nat} {l0 l1 l2 l3 l4 l5 : Option Value} {s0 : Int32} {σ : ab_St} {Q : Option Value → ab_St → Prop} : Ev d 72 8 [l0, l1, l2, l3, l4, l5] [.int s0] σ Q = Ev d 72 10 [l0, l1, l2, l3, l4, some (.int s0)] [] σ Q := ev_S d72_8 rfl rfl rfl rfl
theorem d72_10 : decode (ab_C 72) 10 = .ok (.iload 5, 2) := by decide +kernel
theorem e72_10 {d : Nat} {l0 l1 l2 l3 l4 : Option Value} {x : Int32} {σ : ab_St} {Q : Option Value → ab_St → Prop} : Ev d 72 10 [l0, l1, l2, l3, l4, some (.int x)] [] σ Q = Ev d 72 12 [l0, l1, l2, l3, l4, some (.int x)] [.int x] σ Q := ev_A1 d72_10 rfl
theorem d72_12 : decode (ab_C 72) 12 = .ok (.aload_n 2, 1) := by decide +kernel
theorem e72_12 {d : Nat} {l0 l1 l3 l4 l5 : Option Value} {x : Nat} {s0 : Int32} {σ : ab_St} {Q : Option Value → ab_St → Prop} : Ev d 72 12 [l0, l1, some (.ref x), l3, l4, l5] [.int s0] σ Q = Ev d 72 13 [l0, l1, some (.ref x), l3, l4, l5] [.ref x, .int s0] σ Q := ev_A1 d72_12 rfl
theorem d72_13 : decode (ab_C 72) 13 = .ok (.getfield 46, 3) := by decide +kernel
theorem e72_13 {d : Nat} {l0 l1 l2 l3 l4 l5 : Option Value} {s0 : Nat} {s1 : Int32} {σ : ab_St} {Q : Option Value → ab_St → Prop} : Ev d 72 13 [l0, l1, l2, l3, l4, l5] [.ref s0, .int s1] σ Q = (ab_k s0 = 4 ∧ Ev d 72 16 [l0, l1, l2, l3, l4, l5] [.int (σ.1 s0 2), .int s1] σ Q) := ev_Hc (c := ab_k s0 = 4) d72_13 rfl rfl rfl rfl rfl rfl rfl rfl
theorem d72_16 : decode (ab_C 72) 16 = .ok (.if_icmp .lt 77, 3) := by decide +kernel
theorem e72_16 {d : Nat} {l0 l1 l2 l3 l4 l5 : Option Value} {s0 : Int32} {s1 : Int32} {σ : ab_St} {Q : Option Value → ab_St → Prop} : Ev d 72 16 [l0, l1, l2, l3, l4, l5] [.int s0, .int s1] σ Q = if s1 < s0 then Ev d 72 93 [l0, l1, l2, l3, l4, l5] [] σ Q else Ev d 72 19 [l0, l1, l2, l3, l4, l5] [] σ Q := ev_B (c := s1 < s0) d72_16 rfl rfl rfl rfl rfl
theorem d72_19 : decode (ab_C 72) 19 = .ok (.aload_n 0, 1) := by decide +kernel
theorem e72_19 {d : Nat} {l1 l2 l3 l4 l5 : Option Value} {x : Nat} {σ : ab_St} {Q : Option Value → ab_St → Prop} : Ev d 72 19 [some (.ref x), l1, l2, l3, l4, l5] [] σ Q = Ev d 72 20 [some (.ref x), l1, l2, l3, l4, l5] [.ref x] σ Q := ev_A1 d72_19 rfl
theorem d72_20 : decode (ab_C 72) 20 = .ok (.getfield 18, 3) := by decide +kernel
theorem e72_20 {d : Nat} {l0 l1 l2 l3 l4 l5 : Option Value} {s0 : Nat} {σ : ab_St} {Q : Option Value → ab_St → Prop} : Ev d 72 20 [l0, l1, l2, l3, l4, l5] [.ref s0] σ Q = (ab_k s0 = 6 ∧ Ev d 72 23 [l0, l1, l2, l3, l4, l5] [.ref (ab_r s0 1)] σ Q) := ev_Hc (c := ab_k s0 = 6) d72_20 rfl rfl rfl rfl rfl rfl rfl rfl
theorem d72_23 : decode (ab_C 72) 23 = .ok (.iload 5, 2) := by decide +kernel
theorem e72_23 {d : Nat} {l0 l1 l2 l3 l4 : Option Value} {x : Int32} {s0 : Nat} {σ : ab_St} {Q : Option Value → ab_St → Prop} : Ev d 72 23 [l0, l1, l2, l3, l4, some (.int x)] [.ref s0] σ Q = Ev d 72 25 [l0, l1, l2, l3, l4, some (.int x)] [.int x, .ref s0] σ Q := ev_A1 d72_23 rfl
theorem d72_25 : decode (ab_C 72) 25 = .ok (.iaload, 1) := by decide +kernel
theorem e72_25 {d : Nat} {l0 l1 l2 l3 l4 l5 : Option Value} {s0 : Int32} {s1 : Nat} {σ : ab_St} {Q : Option Value → ab_St → Prop} : Ev d 72 25 [l0, l1, l2, l3, l4, l5] [.int s0, .ref s1] σ Q = ((ab_k s1 = 100 ∧ ab_in s0 (ab_n s1)) ∧ Ev d 72 26 [l0, l1, l2, l3, l4, l5] [.int (σ.1 s1 s0.toNatClampNeg)] σ Q) := ev_Hc (c := ab_k s1 = 100 ∧ ab_in s0 (ab_n s1)) d72_25 rfl rfl rfl rfl rfl rfl rfl rfl
theorem d72_26 : decode (ab_C 72) 26 = .ok (.ifCond .eq 14, 3) := by decide +kernel
theorem e72_26 {d : Nat} {l0 l1 l2 l3 l4 l5 : Option Value} {s0 : Int32} {σ : ab_St} {Q : Option Value → ab_St → Prop} : Ev d 72 26 [l0, l1, l2, l3, l4, l5] [.int s0] σ Q = if s0 = 0 then Ev d 72 40 [l0, l1, l2, l3, l4, l5] [] σ Q else Ev d 72 29 [l0, l1, l2, l3, l4, l5] [] σ Q := ev_B (c := s0 = 0) d72_26 rfl rfl rfl rfl rfl
theorem d72_29 : decode (ab_C 72) 29 = .ok (.aload_n 0, 1) := by decide +kernel
theorem e72_29 {d : Nat} {l1 l2 l3 l4 l5 : Option Value} {x : Nat} {σ : ab_St} {Q : Option Value → ab_St → Prop} : Ev d 72 29 [some (.ref x), l1, l2, l3, l4, l5] [] σ Q = Ev d 72 30 [some (.ref x), l1, l2, l3, l4, l5] [.ref x] σ Q := ev_A1 d72_29 rfl
theorem d72_30 : decode (ab_C 72) 30 = .ok (.getfield 25, 3) := by decide +kernel
theorem e72_30 {d : Nat} {l0 l1 l2 l3 l4 l5 : Option Value} {s0 : Nat} {σ : ab_St} {Q : Option Value → ab_St → Prop} : Ev d 72 30 [l0, l1, l2, l3, l4, l5] [.ref s0] σ Q = (ab_k s0 = 6 ∧ Ev d 72 33 [l0, l1, l2, l3, l4, l5] [.ref (ab_r s0 3)] σ Q) := ev_Hc (c := ab_k s0 = 6) d72_30 rfl rfl rfl rfl rfl rfl rfl rfl
theorem d72_33 : decode (ab_C 72) 33 = .ok (.iload 5, 2) := by decide +kernel
theorem e72_33 {d : Nat} {l0 l1 l2 l3 l4 : Option Value} {x : Int32} {s0 : Nat} {σ : ab_St} {Q : Option Value → ab_St → Prop} : Ev d 72 33 [l0, l1, l2, l3, l4, some (.int x)] [.ref s0] σ Q = Ev d 72 35 [l0, l1, l2, l3, l4, some (.int x)] [.int x, .ref s0] σ Q := ev_A1 d72_33 rfl
theorem d72_35 : decode (ab_C 72) 35 = .ok (.iaload, 1) := by decide +kernel
theorem e72_35 {d : Nat} {l0 l1 l2 l3 l4 l5 : Option Value} {s0 : Int32} {s1 : Nat} {σ : ab_St} {Q : Option Value → ab_St → Prop} : Ev d 72 35 [l0, l1, l2, l3, l4, l5] [.int s0, .ref s1] σ Q = ((ab_k s1 = 100 ∧ ab_in s0 (ab_n s1)) ∧ Ev d 72 36 [l0, l1, l2, l3, l4, l5] [.int (σ.1 s1 s0.toNatClampNeg)] σ Q) := ev_Hc (c := ab_k s1 = 100 ∧ ab_in s0 (ab_n s1)) d72_35 rfl rfl rfl rfl rfl rfl rfl rfl
theorem d72_36 : decode (ab_C 72) 36 = .ok (.iload_n 3, 1) := by decide +kernel
theorem e72_36 {d : Nat} {l0 l1 l2 l4 l5 : Option Value} {x : Int32} {s0 : Int32} {σ : ab_St} {Q : Option Value → ab_St → Prop} : Ev d 72 36 [l0, l1, l2, some (.int x), l4, l5] [.int s0] σ Q = Ev d 72 37 [l0, l1, l2, some (.int x), l4, l5] [.int x, .int s0] σ Q := ev_A1 d72_36 rfl
theorem d72_37 : decode (ab_C 72) 37 = .ok (.if_icmp .le 14, 3) := by decide +kernel
theorem e72_37 {d : Nat} {l0 l1 l2 l3 l4 l5 : Option Value} {s0 : Int32} {s1 : Int32} {σ : ab_St} {Q : Option Value → ab_St → Prop} : Ev d 72 37 [l0, l1, l2, l3, l4, l5] [.int s0, .int s1] σ Q = if s1 ≤ s0 then Ev d 72 51 [l0, l1, l2, l3, l4, l5] [] σ Q else Ev d 72 40 [l0, l1, l2, l3, l4, l5] [] σ Q := ev_B (c := s1 ≤ s0) d72_37 rfl rfl rfl rfl rfl
theorem d72_40 : decode (ab_C 72) 40 = .ok (.aload_n 0, 1) := by decide +kernel
theorem e72_40 {d : Nat} {l1 l2 l3 l4 l5 : Option Value} {x : Nat} {σ : ab_St} {Q : Option Value → ab_St → Prop} : Ev d 72 40 [some (.ref x), l1, l2, l3, l4, l5] [] σ Q = Ev d 72 41 [some (.ref x), l1, l2, l3, l4, l5] [.ref x] σ Q := ev_A1 d72_40 rfl
theorem d72_41 : decode (ab_C 72) 41 = .ok (.getfield 31, 3) := by decide +kernel
theorem e72_41 {d : Nat} {l0 l1 l2 l3 l4 l5 : Option Value} {s0 : Nat} {σ : ab_St} {Q : Option Value → ab_St → Prop} : Ev d 72 41 [l0, l1, l2, l3, l4, l5] [.ref s0] σ Q = (ab_k s0 = 6 ∧ Ev d 72 44 [l0, l1, l2, l3, l4, l5] [.ref (ab_r s0 5)] σ Q) := ev_Hc (c := ab_k s0 = 6) d72_41 rfl rfl rfl rfl rfl rfl rfl rfl
theorem d72_44 : decode (ab_C 72) 44 = .ok (.iload 5, 2) := by decide +kernel
theorem e72_44 {d : Nat} {l0 l1 l2 l3 l4 : Option Value} {x : Int32} {s0 : Nat} {σ : ab_St} {Q : Option Value → ab_St → Prop} : Ev d 72 44 [l0, l1, l2, l3, l4, some (.int x)] [.ref s0] σ Q = Ev d 72 46 [l0, l1, l2, l3, l4, some (.int x)] [.int x, .ref s0] σ Q := ev_A1 d72_44 rfl
theorem d72_46 : decode (ab_C 72) 46 = .ok (.iconst 0, 1) := by decide +kernel
theorem e72_46 {d : Nat} {l0 l1 l2 l3 l4 l5 : Option Value} {s0 : Int32} {s1 : Nat} {σ : ab_St} {Q : Option Value → ab_St → Prop} : Ev d 72 46 [l0, l1, l2, l3, l4, l5] [.int s0, .ref s1] σ Q = Ev d 72 47 [l0, l1, l2, l3, l4, l5] [.int 0, .int s0, .ref s1] σ Q := ev_A1 d72_46 rfl
theorem d72_47 : decode (ab_C 72) 47 = .ok (.iastore, 1) := by decide +kernel
theorem e72_47 {d : Nat} {l0 l1 l2 l3 l4 l5 : Option Value} {s0 : Int32} {s1 : Int32} {s2 : Nat} {σ : ab_St} {Q : Option Value → ab_St → Prop} : Ev d 72 47 [l0, l1, l2, l3, l4, l5] [.int s0, .int s1, .ref s2] σ Q = ((ab_k s2 = 100 ∧ ab_in s1 (ab_n s2)) ∧ Ev d 72 48 [l0, l1, l2, l3, l4, l5] [] (ab_wI σ s2 (upd (σ.1 s2) s1.toNatClampNeg s0)) Q) := ev_Hc (c := ab_k s2 = 100 ∧ ab_in s1 (ab_n s2)) d72_47 rfl rfl rfl rfl rfl rfl rfl rfl
theorem d72_48 : decode (ab_C 72) 48 = .ok (.goto 39, 3) := by decide +kernel
theorem e72_48 {d : Nat} {l0 l1 l2 l3 l4 l5 : Option Value} {σ : ab_St} {Q : Option Value → ab_St → Prop} : Ev d 72 48 [l0, l1, l2, l3, l4, l5] [] σ Q = Ev d 72 87 [l0, l1, l2, l3, l4, l5] [] σ Q := ev_J d72_48 rfl rfl rfl rfl rfl
theorem d72_51 : decode (ab_C 72) 51 = .ok (.aload_n 0, 1) := by decide +kernel
theorem e72_51 {d : Nat} {l1 l2 l3 l4 l5 : Option Value} {x : Nat} {σ : ab_St} {Q : Option Value → ab_St → Prop} : Ev d 72 51 [some (.ref x), l1, l2, l3, l4, l5] [] σ Q = Ev d 72 52 [some (.ref x), l1, l2, l3, l4, l5] [.ref x] σ Q := ev_A1 d72_51 rfl
theorem d72_52 : decode (ab_C 72) 52 = .ok (.getfield 31, 3) := by decide +kernel
theorem e72_52 {d : Nat} {l0 l1 l2 l3 l4 l5 : Option Value} {s0 : Nat} {σ : ab_St} {Q : Option Value → ab_St → Prop} : Ev d 72 52 [l0, l1, l2, l3, l4, l5] [.ref s0] σ Q = (ab_k s0 = 6 ∧ Ev d 72 55 [l0, l1, l2, l3, l4, l5] [.ref (ab_r s0 5)] σ Q) := ev_Hc (c := ab_k s0 = 6) d72_52 rfl rfl rfl rfl rfl rfl rfl rfl
theorem d72_55 : decode (ab_C 72) 55 = .ok (.iload 5, 2) := by decide +kernel
theorem e72_55 {d : Nat} {l0 l1 l2 l3 l4 : Option Value} {x : Int32} {s0 : Nat} {σ : ab_St} {Q : Option Value → ab_St → Prop} : Ev d 72 55 [l0, l1, l2, l3, l4, some (.int x)] [.ref s0] σ Q = Ev d 72 57 [l0, l1, l2, l3, l4, some (.int x)] [.int x, .ref s0] σ Q := ev_A1 d72_55 rfl
theorem d72_57 : decode (ab_C 72) 57 = .ok (.aload_n 0, 1) := by decide +kernel
theorem e72_57 {d : Nat} {l1 l2 l3 l4 l5 : Option Value} {x : Nat} {s0 : Int32} {s1 : Nat} {σ : ab_St} {Q : Option Value → ab_St → Prop} : Ev d 72 57 [some (.ref x), l1, l2, l3, l4, l5] [.int s0, .ref s1] σ Q = Ev d 72 58 [some (.ref x), l1, l2, l3, l4, l5] [.ref x, .int s0, .ref s1] σ Q := ev_A1 d72_57 rfl
theorem d72_58 : decode (ab_C 72) 58 = .ok (.getfield 28, 3) := by decide +kernel
theorem e72_58 {d : Nat} {l0 l1 l2 l3 l4 l5 : Option Value} {s0 : Nat} {s1 : Int32} {s2 : Nat} {σ : ab_St} {Q : Option Value → ab_St → Prop} : Ev d 72 58 [l0, l1, l2, l3, l4, l5] [.ref s0, .int s1, .ref s2] σ Q = (ab_k s0 = 6 ∧ Ev d 72 61 [l0, l1, l2, l3, l4, l5] [.ref (ab_r s0 4), .int s1, .ref s2] σ Q) := ev_Hc (c := ab_k s0 = 6) d72_58 rfl rfl rfl rfl rfl rfl rfl rfl
theorem d72_61 : decode (ab_C 72) 61 = .ok (.iload 5, 2) := by decide +kernel
theorem e72_61 {d : Nat} {l0 l1 l2 l3 l4 : Option Value} {x : Int32} {s0 : Nat} {s1 : Int32} {s2 : Nat} {σ : ab_St} {Q : Option Value → ab_St → Prop} : Ev d 72 61 [l0, l1, l2, l3, l4, some (.int x)] [.ref s0, .int s1, .ref s2] σ Q = Ev d 72 63 [l0, l1, l2, l3, l4, some (.int x)] [.int x, .ref s0, .int s1, .ref s2] σ Q := ev_A1 d72_61 rfl
theorem d72_63 : decode (ab_C 72) 63 = .ok (.iaload, 1) := by decide +kernel
theorem e72_63 {d : Nat} {l0 l1 l2 l3 l4 l5 : Option Value} {s0 : Int32} {s1 : Nat} {s2 : Int32} {s3 : Nat} {σ : ab_St} {Q : Option Value → ab_St → Prop} : Ev d 72 63 [l0, l1, l2, l3, l4, l5] [.int s0, .ref s1, .int s2, .ref s3] σ Q = ((ab_k s1 = 100 ∧ ab_in s0 (ab_n s1)) ∧ Ev d 72 64 [l0, l1, l2, l3, l4, l5] [.int (σ.1 s1 s0.toNatClampNeg), .int s2, .ref s3] σ Q) := ev_Hc (c := ab_k s1 = 100 ∧ ab_in s0 (ab_n s1)) d72_63 rfl rfl rfl rfl rfl rfl rfl rfl
theorem d72_64 : decode (ab_C 72) 64 = .ok (.iload 4, 2) := by decide +kernel
theorem e72_64 {d : Nat} {l0 l1 l2 l3 l5 : Option Value} {x : Int32} {s0 : Int32} {s1 : Int32} {s2 : Nat} {σ : ab_St} {Q : Option Value → ab_St → Prop} : Ev d 72 64 [l0, l1, l2, l3, some (.int x), l5] [.int s0, .int s1, .ref s2] σ Q = Ev d 72 66 [l0, l1, l2, l3, some (.int x), l5] [.int x, .int s0, .int s1, .ref s2] σ Q := ev_A1 d72_64 rfl
theorem d72_66 : decode (ab_C 72) 66 = .ok (.if_icmp .ne 13, 3) := by decide +kernel
theorem e72_66 {d : Nat} {l0 l1 l2 l3 l4 l5 : Option Value} {s0 : Int32} {s1 : Int32} {s2 : Int32} {s3 : Nat} {σ : ab_St} {Q : Option Value → ab_St → Prop} : Ev d 72 66 [l0, l1, l2, l3, l4, l5] [.int s0, .int s1, .int s2, .ref s3] σ Q = if s1 = s0 then Ev d 72 69 [l0, l1, l2, l3, l4, l5] [.int s2, .ref s3] σ Q else Ev d 72 79 [l0, l1, l2, l3, l4, l5] [.int s2, .ref s3] σ Q := ev_B (c := s1 = s0) d72_66 rfl rfl rfl rfl rfl
theorem d72_69 : decode (ab_C 72) 69 = .ok (.aload_n 0, 1) := by decide +kernel
theorem e72_69 {d : Nat} {l1 l2 l3 l4 l5 : Option Value} {x : Nat} {s0 : Int32} {s1 : Nat} {σ : ab_St} {Q : Option Value → ab_St → Prop} : Ev d 72 69 [some (.ref x), l1, l2, l3, l4, l5] [.int s0, .ref s1] σ Q = Ev d 72 70 [some (.ref x), l1, l2, l3, l4, l5] [.ref x, .int s0, .ref s1] σ Q := ev_A1 d72_69 rfl
theorem d72_70 : decode (ab_C 72) 70 = .ok (.getfield 18, 3) := by decide +kernel
theorem e72_70 {d : Nat} {l0 l1 l2 l3 l4 l5 : Option Value} {s0 : Nat} {s1 : Int32} {s2 : Nat} {σ : ab_St} {Q : Option Value → ab_St → Prop} : Ev d 72 70 [l0, l1, l2, l3, l4, l5] [.ref s0, .int s1, .ref s2] σ Q = (ab_k s0 = 6 ∧ Ev d 72 73 [l0, l1, l2, l3, l4, l5] [.ref (ab_r s0 1), .int s1, .ref s2] σ Q) := ev_Hc (c := ab_k s0 = 6) d72_70 rfl rfl rfl rfl rfl rfl rfl rfl
theorem d72_73 : decode (ab_C 72) 73 = .ok (.iload 5, 2) := by decide +kernel
theorem e72_73 {d : Nat} {l0 l1 l2 l3 l4 : Option Value} {x : Int32} {s0 : Nat} {s1 : Int32} {s2 : Nat} {σ : ab_St} {Q : Option Value → ab_St → Prop} : Ev d 72 73 [l0, l1, l2, l3, l4, some (.int x)] [.ref s0, .int s1, .ref s2] σ Q = Ev d 72 75 [l0, l1, l2, l3, l4, some (.int x)] [.int x, .ref s0, .int s1, .ref s2] σ Q := ev_A1 d72_73 rfl
theorem d72_75 : decode (ab_C 72) 75 = .ok (.iaload, 1) := by decide +kernel
theorem e72_75 {d : Nat} {l0 l1 l2 l3 l4 l5 : Option Value} {s0 : Int32} {s1 : Nat} {s2 : Int32} {s3 : Nat} {σ : ab_St} {Q : Option Value → ab_St → Prop} : Ev d 72 75 [l0, l1, l2, l3, l4, l5] [.int s0, .ref s1, .int s2, .ref s3] σ Q = ((ab_k s1 = 100 ∧ ab_in s0 (ab_n s1)) ∧ Ev d 72 76 [l0, l1, l2, l3, l4, l5] [.int (σ.1 s1 s0.toNatClampNeg), .int s2, .ref s3] σ Q) := ev_Hc (c := ab_k s1 = 100 ∧ ab_in s0 (ab_n s1)) d72_75 rfl rfl rfl rfl rfl rfl rfl rfl
theorem d72_76 : decode (ab_C 72) 76 = .ok (.goto 10, 3) := by decide +kernel
theorem e72_76 {d : Nat} {l0 l1 l2 l3 l4 l5 : Option Value} {s0 : Int32} {s1 : Int32} {s2 : Nat} {σ : ab_St} {Q : Option Value → ab_St → Prop} : Ev d 72 76 [l0, l1, l2, l3, l4, l5] [.int s0, .int s1, .ref s2] σ Q = Ev d 72 86 [l0, l1, l2, l3, l4, l5] [.int s0, .int s1, .ref s2] σ Q := ev_J d72_76 rfl rfl rfl rfl rfl
theorem d72_79 : decode (ab_C 72) 79 = .ok (.aload_n 0, 1) := by decide +kernel
theorem e72_79 {d : Nat} {l1 l2 l3 l4 l5 : Option Value} {x : Nat} {s0 : Int32} {s1 : Nat} {σ : ab_St} {Q : Option Value → ab_St → Prop} : Ev d 72 79 [some (.ref x), l1, l2, l3, l4, l5] [.int s0, .ref s1] σ Q = Ev d 72 80 [some (.ref x), l1, l2, l3, l4, l5] [.ref x, .int s0, .ref s1] σ Q := ev_A1 d72_79 rfl
theorem d72_80 : decode (ab_C 72) 80 = .ok (.aload_n 1, 1) := by decide +kernel
theorem e72_80 {d : Nat} {l0 l2 l3 l4 l5 : Option Value} {x : Nat} {s0 : Nat} {s1 : Int32} {s2 : Nat} {σ : ab_St} {Q : Option Value → ab_St → Prop} : Ev d 72 80 [l0, some (.ref x), l2, l3, l4, l5] [.ref s0, .int s1, .ref s2] σ Q = Ev d 72 81 [l0, some (.ref x), l2, l3, l4, l5] [.ref x, .ref s0, .int s1, .ref s2] σ Q := ev_A1 d72_80 rfl
theorem d72_81 : decode (ab_C 72) 81 = .ok (.iload 5, 2) := by decide +kernel
theorem e72_81 {d : Nat} {l0 l1 l2 l3 l4 : Option Value} {x : Int32} {s0 : Nat} {s1 : Nat} {s2 : Int32} {s3 : Nat} {σ : ab_St} {Q : Option Value → ab_St → Prop} : Ev d 72 81 [l0, l1, l2, l3, l4, some (.int x)] [.ref s0, .ref s1, .int s2, .ref s3] σ Q = Ev d 72 83 [l0, l1, l2, l3, l4, some (.int x)] [.int x, .ref s0, .ref s1, .int s2, .ref s3] σ Q := ev_A1 d72_81 rfl
theorem d72_83 : decode (ab_C 72) 83 = .ok (.invokevirtual 113, 3) := by decide +kernel
theorem e72_83 {d : Nat} {l0 l1 l2 l3 l4 l5 : Option Value} {s0 : Int32} {s1 : Nat} {s2 : Nat} {s3 : Int32} {s4 : Nat} {σ : ab_St} {Q : Option Value → ab_St → Prop} : Ev (d + 1) 72 83 [l0, l1, l2, l3, l4, l5] [.int s0, .ref s1, .ref s2, .int s3, .ref s4] σ Q = (ab_k s2 = 6 ∧ Ev d 73 0 [some (.ref s2), some (.ref s1), some (.int s0), none, none, none] [] σ (fun r σ2 => Ev (d + 1) 72 86 [l0, l1, l2, l3, l4, l5] (r.toList ++ [.int s3, .ref s4]) σ2 Q)) := ev_KV (b := s2) (ls := [l0, l1, l2, l3, l4, l5]) (st := [.int s0, .ref s1, .ref s2, .int s3, .ref s4]) (as := [.ref s1, .int s0]) (rest := [.int s3, .ref s4]) d72_83 rfl rfl rfl (Nat.le_of_ble_eq_true rfl) (Nat.le_of_ble_eq_true rfl) (Nat.le_of_ble_eq_true rfl) rfl rfl rfl rfl rfl rfl rfl
theorem d72_86 : decode (ab_C 72) 86 = .ok (.iastore, 1) := by decide +kernel
theorem e72_86 {d : Nat} {l0 l1 l2 l3 l4 l5 : Option Value} {s0 : Int32} {s1 : Int32} {s2 : Nat} {σ : ab_St} {Q : Option Value → ab_St → Prop} : Ev d 72 86 [l0, l1, l2, l3, l4, l5] [.int s0, .int s1, .ref s2] σ Q = ((ab_k s2 = 100 ∧ ab_in s1 (ab_n s2)) ∧ Ev d 72 87 [l0, l1, l2, l3, l4, l5] [] (ab_wI σ s2 (upd (σ.1 s2) s1.toNatClampNeg s0)) Q) := ev_Hc (c := ab_k s2 = 100 ∧ ab_in s1 (ab_n s2)) d72_86 rfl rfl rfl rfl rfl rfl rfl rfl
theorem d72_87 : decode (ab_C 72) 87 = .ok (.iinc 5 (-1), 3) := by decide +kernel
theorem e72_87 {d : Nat} {l0 l1 l2 l3 l4 : Option Value} {x : Int32} {σ : ab_St} {Q : Option Value → ab_St → Prop} : Ev d 72 87 [l0, l1, l2, l3, l4, some (.int x)] [] σ Q = Ev d 72 90 [l0, l1, l2, l3, l4, some (.int (x + (-1)))] [] σ Q := ev_S d72_87 rfl rfl rfl rfl
theorem d72_90 : decode (ab_C 72) 90 = .ok (.goto (-80), 3) := by decide +kernel
theorem e72_90 {d : Nat} {l0 l1 l2 l3 l4 l5 : Option Value} {σ : ab_St} {Q : Option Value → ab_St → Prop} : Ev d 72 90 [l0, l1, l2, l3, l4, l5] [] σ Q = Ev d 72 10 [l0, l1, l2, l3, l4, l5] [] σ Q := ev_J d72_90 rfl rfl rfl rfl rfl
theorem d72_93 : decode (ab_C 72) 93 = .ok (.return_, 1) := by decide +kernel
theorem e72_93 {d : Nat} {l0 l1 l2 l3 l4 l5 : Option Value} {σ : ab_St} {Q : Option Value → ab_St → Prop} : Ev d 72 93 [l0, l1, l2, l3, l4, l5] [] σ Q = Q none σ := ev_E d72_93 rfl rfl rfl rfl rfl rfl rfl
