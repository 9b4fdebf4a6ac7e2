/-! SaidLeast$Guesses.weighTurns(LSaidLeast$State;III)V -/
theorem d93_0 : decode (ab_C 93) 0 = .ok (.aload_n 0, 1) := by decide +kernel
theorem e93_0 {d : Nat} {l1 l2 l3 l4 l5 : Option Value} {x : Nat} {σ : ab_St} {Q : Option Value → ab_St → Prop} : Ev d 93 0 [some (.ref x), l1, l2, l3, l4, l5] [] σ Q = Ev d 93 1 [some (.ref x), l1, l2, l3, l4, l5] [.ref x] σ Q := ev_A1 d93_0 rfl
theorem d93_1 : decode (ab_C 93) 1 = .ok (.lconst 0, 1) := by decide +kernel
theorem e93_1 {d : Nat} {l0 l1 l2 l3 l4 l5 : Option Value} {s0 : Nat} {σ : ab_St} {Q : Option Value → ab_St → Prop} : Ev d 93 1 [l0, l1, l2, l3, l4, l5] [.ref s0] σ Q = Ev d 93 2 [l0, l1, l2, l3, l4, l5] [.long 0, .ref s0] σ Q := ev_A1 d93_1 rfl
theorem d93_2 : decode (ab_C 93) 2 = .ok (.putfield 65, 3) := by decide +kernel
theorem e93_2 {d : Nat} {l0 l1 l2 l3 l4 l5 : Option Value} {s0 : Int64} {s1 : Nat} {σ : ab_St} {Q : Option Value → ab_St → Prop} : Ev d 93 2 [l0, l1, l2, l3, l4, l5] [.long s0, .ref s1] σ Q = (ab_k s1 = 9 ∧ Ev d 93 5 [l0, l1, l2, l3, l4, l5] [] (ab_wL σ s1 (vp_updL (σ.2 s1) 2 s0)) Q) := ev_Hc (c := ab_k s1 = 9) d93_2 rfl rfl rfl rfl rfl rfl rfl rfl
theorem d93_5 : decode (ab_C 93) 5 = .ok (.iconst 0, 1) := by decide +kernel
theorem e93_5 {d : Nat} {l0 l1 l2 l3 l4 l5 : Option Value} {σ : ab_St} {Q : Option Value → ab_St → Prop} : Ev d 93 5 [l0, l1, l2, l3, l4, l5] [] σ Q = Ev d 93 6 [l0, l1, l2, l3, l4, l5] [.int 0] σ Q := ev_A1 d93_5 rfl
theorem d93_6 : decode (ab_C 93) 6 = .ok (.istore 5, 2) := by decide +kernel
theorem e93_6 {d : Nat} {l0 l1 l2 l3 l4 l5 : Option Value} {s0 : Int32} {σ : ab_St} {Q : Option Value → ab_St → Prop} : Ev d 93 6 [l0, l1, l2, l3, l4, l5] [.int s0] σ Q = Ev d 93 8 [l0, l1, l2, l3, l4, some (.int s0)] [] σ Q := ev_S d93_6 rfl rfl rfl rfl
theorem d93_8 : decode (ab_C 93) 8 = .ok (.iload 5, 2) := by decide +kernel
theorem e93_8 {d : Nat} {l0 l1 l2 l3 l4 : Option Value} {x : Int32} {σ : ab_St} {Q : Option Value → ab_St → Prop} : Ev d 93 8 [l0, l1, l2, l3, l4, some (.int x)] [] σ Q = Ev d 93 10 [l0, l1, l2, l3, l4, some (.int x)] [.int x] σ Q := ev_A1 d93_8 rfl
theorem d93_10 : decode (ab_C 93) 10 = .ok (.iconst 1, 1) := by decide +kernel
theorem e93_10 {d : Nat} {l0 l1 l2 l3 l4 l5 : Option Value} {s0 : Int32} {σ : ab_St} {Q : Option Value → ab_St → Prop} : Ev d 93 10 [l0, l1, l2, l3, l4, l5] [.int s0] σ Q = Ev d 93 11 [l0, l1, l2, l3, l4, l5] [.int 1, .int s0] σ Q := ev_A1 d93_10 rfl
theorem d93_11 : decode (ab_C 93) 11 = .ok (.iload_n 3, 1) := by decide +kernel
theorem e93_11 {d : Nat} {l0 l1 l2 l4 l5 : Option Value} {x : Int32} {s0 : Int32} {s1 : Int32} {σ : ab_St} {Q : Option Value → ab_St → Prop} : Ev d 93 11 [l0, l1, l2, some (.int x), l4, l5] [.int s0, .int s1] σ Q = Ev d 93 12 [l0, l1, l2, some (.int x), l4, l5] [.int x, .int s0, .int s1] σ Q := ev_A1 d93_11 rfl
theorem d93_12 : decode (ab_C 93) 12 = .ok (.ishl, 1) := by decide +kernel
theorem e93_12 {d : Nat} {l0 l1 l2 l3 l4 l5 : Option Value} {s0 : Int32} {s1 : Int32} {s2 : Int32} {σ : ab_St} {Q : Option Value → ab_St → Prop} : Ev d 93 12 [l0, l1, l2, l3, l4, l5] [.int s0, .int s1, .int s2] σ Q = Ev d 93 13 [l0, l1, l2, l3, l4, l5] [.int (s1 <<< (s0 &&& 31)), .int s2] σ Q := ev_A2 d93_12 rfl rfl
theorem d93_13 : decode (ab_C 93) 13 = .ok (.if_icmp .ge 38, 3) := by decide +kernel
theorem e93_13 {d : Nat} {l0 l1 l2 l3 l4 l5 : Option Value} {s0 : Int32} {s1 : Int32} {σ : ab_St} {Q : Option Value → ab_St → Prop} : Ev d 93 13 [l0, l1, l2, l3, l4, l5] [.int s0, .int s1] σ Q = if s0 ≤ s1 then Ev d 93 51 [l0, l1, l2, l3, l4, l5] [] σ Q else Ev d 93 16 [l0, l1, l2, l3, l4, l5] [] σ Q := ev_B (c := s0 ≤ s1) d93_13 rfl rfl rfl rfl rfl
theorem d93_16 : decode (ab_C 93) 16 = .ok (.aload_n 0, 1) := by decide +kernel
theorem e93_16 {d : Nat} {l1 l2 l3 l4 l5 : Option Value} {x : Nat} {σ : ab_St} {Q : Option Value → ab_St → Prop} : Ev d 93 16 [some (.ref x), l1, l2, l3, l4, l5] [] σ Q = Ev d 93 17 [some (.ref x), l1, l2, l3, l4, l5] [.ref x] σ Q := ev_A1 d93_16 rfl
theorem d93_17 : decode (ab_C 93) 17 = .ok (.aload_n 1, 1) := by decide +kernel
theorem e93_17 {d : Nat} {l0 l2 l3 l4 l5 : Option Value} {x : Nat} {s0 : Nat} {σ : ab_St} {Q : Option Value → ab_St → Prop} : Ev d 93 17 [l0, some (.ref x), l2, l3, l4, l5] [.ref s0] σ Q = Ev d 93 18 [l0, some (.ref x), l2, l3, l4, l5] [.ref x, .ref s0] σ Q := ev_A1 d93_17 rfl
theorem d93_18 : decode (ab_C 93) 18 = .ok (.iload_n 2, 1) := by decide +kernel
theorem e93_18 {d : Nat} {l0 l1 l3 l4 l5 : Option Value} {x : Int32} {s0 : Nat} {s1 : Nat} {σ : ab_St} {Q : Option Value → ab_St → Prop} : Ev d 93 18 [l0, l1, some (.int x), l3, l4, l5] [.ref s0, .ref s1] σ Q = Ev d 93 19 [l0, l1, some (.int x), l3, l4, l5] [.int x, .ref s0, .ref s1] σ Q := ev_A1 d93_18 rfl
theorem d93_19 : decode (ab_C 93) 19 = .ok (.iload_n 3, 1) := by decide +kernel
theorem e93_19 {d : Nat} {l0 l1 l2 l4 l5 : Option Value} {x : Int32} {s0 : Int32} {s1 : Nat} {s2 : Nat} {σ : ab_St} {Q : Option Value → ab_St → Prop} : Ev d 93 19 [l0, l1, l2, some (.int x), l4, l5] [.int s0, .ref s1, .ref s2] σ Q = Ev d 93 20 [l0, l1, l2, some (.int x), l4, l5] [.int x, .int s0, .ref s1, .ref s2] σ Q := ev_A1 d93_19 rfl
theorem d93_20 : decode (ab_C 93) 20 = .ok (.iload 5, 2) := by decide +kernel
theorem e93_20 {d : Nat} {l0 l1 l2 l3 l4 : Option Value} {x : Int32} {s0 : Int32} {s1 : Int32} {s2 : Nat} {s3 : Nat} {σ : ab_St} {Q : Option Value → ab_St → Prop} : Ev d 93 20 [l0, l1, l2, l3, l4, some (.int x)] [.int s0, .int s1, .ref s2, .ref s3] σ Q = Ev d 93 22 [l0, l1, l2, l3, l4, some (.int x)] [.int x, .int s0, .int s1, .ref s2, .ref s3] σ Q := ev_A1 d93_20 rfl
theorem d93_22 : decode (ab_C 93) 22 = .ok (.invokevirtual 68, 3) := by decide +kernel
theorem e93_22 {d : Nat} {l0 l1 l2 l3 l4 l5 : Option Value} {s0 : Int32} {s1 : Int32} {s2 : Int32} {s3 : Nat} {s4 : Nat} {σ : ab_St} {Q : Option Value → ab_St → Prop} : Ev (d + 1) 93 22 [l0, l1, l2, l3, l4, l5] [.int s0, .int s1, .int s2, .ref s3, .ref s4] σ Q = (ab_k s4 = 9 ∧ Ev d 94 0 [some (.ref s4), some (.ref s3), some (.int s2), some (.int s1), some (.int s0), none, none] [] σ (fun r σ2 => Ev (d + 1) 93 25 [l0, l1, l2, l3, l4, l5] (r.toList ++ []) σ2 Q)) := ev_KV (b := s4) (ls := [l0, l1, l2, l3, l4, l5]) (st := [.int s0, .int s1, .int s2, .ref s3, .ref s4]) (as := [.ref s3, .int s2, .int s1, .int s0]) (rest := []) d93_22 rfl rfl rfl (Nat.le_of_ble_eq_true rfl) (Nat.le_of_ble_eq_true rfl) (Nat.le_of_ble_eq_true rfl) rfl rfl rfl rfl rfl rfl rfl
theorem d93_25 : decode (ab_C 93) 25 = .ok (.ifCond .eq 20, 3) := by decide +kernel
theorem e93_25 {d : Nat} {l0 l1 l2 l3 l4 l5 : Option Value} {s0 : Int32} {σ : ab_St} {Q : Option Value → ab_St → Prop} : Ev d 93 25 [l0, l1, l2, l3, l4, l5] [.int s0] σ Q = if s0 = 0 then Ev d 93 45 [l0, l1, l2, l3, l4, l5] [] σ Q else Ev d 93 28 [l0, l1, l2, l3, l4, l5] [] σ Q := ev_B (c := s0 = 0) d93_25 rfl rfl rfl rfl rfl
theorem d93_28 : decode (ab_C 93) 28 = .ok (.aload_n 0, 1) := by decide +kernel
theorem e93_28 {d : Nat} {l1 l2 l3 l4 l5 : Option Value} {x : Nat} {σ : ab_St} {Q : Option Value → ab_St → Prop} : Ev d 93 28 [some (.ref x), l1, l2, l3, l4, l5] [] σ Q = Ev d 93 29 [some (.ref x), l1, l2, l3, l4, l5] [.ref x] σ Q := ev_A1 d93_28 rfl
theorem d93_29 : decode (ab_C 93) 29 = .ok (.dup, 1) := by decide +kernel
theorem e93_29 {d : Nat} {l0 l1 l2 l3 l4 l5 : Option Value} {s0 : Nat} {σ : ab_St} {Q : Option Value → ab_St → Prop} : Ev d 93 29 [l0, l1, l2, l3, l4, l5] [.ref s0] σ Q = Ev d 93 30 [l0, l1, l2, l3, l4, l5] [.ref s0, .ref s0] σ Q := ev_A1 d93_29 rfl
theorem d93_30 : decode (ab_C 93) 30 = .ok (.getfield 65, 3) := by decide +kernel
theorem e93_30 {d : Nat} {l0 l1 l2 l3 l4 l5 : Option Value} {s0 : Nat} {s1 : Nat} {σ : ab_St} {Q : Option Value → ab_St → Prop} : Ev d 93 30 [l0, l1, l2, l3, l4, l5] [.ref s0, .ref s1] σ Q = (ab_k s0 = 9 ∧ Ev d 93 33 [l0, l1, l2, l3, l4, l5] [.long (σ.2 s0 2), .ref s1] σ Q) := ev_Hc (c := ab_k s0 = 9) d93_30 rfl rfl rfl rfl rfl rfl rfl rfl
theorem d93_33 : decode (ab_C 93) 33 = .ok (.iload_n 3, 1) := by decide +kernel
theorem e93_33 {d : Nat} {l0 l1 l2 l4 l5 : Option Value} {x : Int32} {s0 : Int64} {s1 : Nat} {σ : ab_St} {Q : Option Value → ab_St → Prop} : Ev d 93 33 [l0, l1, l2, some (.int x), l4, l5] [.long s0, .ref s1] σ Q = Ev d 93 34 [l0, l1, l2, some (.int x), l4, l5] [.int x, .long s0, .ref s1] σ Q := ev_A1 d93_33 rfl
theorem d93_34 : decode (ab_C 93) 34 = .ok (.iload 4, 2) := by decide +kernel
theorem e93_34 {d : Nat} {l0 l1 l2 l3 l5 : Option Value} {x : Int32} {s0 : Int32} {s1 : Int64} {s2 : Nat} {σ : ab_St} {Q : Option Value → ab_St → Prop} : Ev d 93 34 [l0, l1, l2, l3, some (.int x), l5] [.int s0, .long s1, .ref s2] σ Q = Ev d 93 36 [l0, l1, l2, l3, some (.int x), l5] [.int x, .int s0, .long s1, .ref s2] σ Q := ev_A1 d93_34 rfl
theorem d93_36 : decode (ab_C 93) 36 = .ok (.iload 5, 2) := by decide +kernel
theorem e93_36 {d : Nat} {l0 l1 l2 l3 l4 : Option Value} {x : Int32} {s0 : Int32} {s1 : Int32} {s2 : Int64} {s3 : Nat} {σ : ab_St} {Q : Option Value → ab_St → Prop} : Ev d 93 36 [l0, l1, l2, l3, l4, some (.int x)] [.int s0, .int s1, .long s2, .ref s3] σ Q = Ev d 93 38 [l0, l1, l2, l3, l4, some (.int x)] [.int x, .int s0, .int s1, .long s2, .ref s3] σ Q := ev_A1 d93_36 rfl
theorem d93_38 : decode (ab_C 93) 38 = .ok (.invokestatic 72, 3) := by decide +kernel
theorem e93_38 {d : Nat} {l0 l1 l2 l3 l4 l5 : Option Value} {s0 : Int32} {s1 : Int32} {s2 : Int32} {s3 : Int64} {s4 : Nat} {σ : ab_St} {Q : Option Value → ab_St → Prop} : Ev (d + 1) 93 38 [l0, l1, l2, l3, l4, l5] [.int s0, .int s1, .int s2, .long s3, .ref s4] σ Q = Ev d 95 0 [some (.int s2), some (.int s1), some (.int s0), none, none, none] [] σ (fun r σ2 => Ev (d + 1) 93 41 [l0, l1, l2, l3, l4, l5] (r.toList ++ [.long s3, .ref s4]) σ2 Q) := ev_K0 (y := 95) (ls := [l0, l1, l2, l3, l4, l5]) (st := [.int s0, .int s1, .int s2, .long s3, .ref s4]) (as := [.int s2, .int s1, .int s0]) (rest := [.long s3, .ref s4]) d93_38 rfl rfl rfl rfl rfl rfl rfl rfl
theorem d93_41 : decode (ab_C 93) 41 = .ok (.ladd, 1) := by decide +kernel
theorem e93_41 {d : Nat} {l0 l1 l2 l3 l4 l5 : Option Value} {s0 : Int64} {s1 : Int64} {s2 : Nat} {σ : ab_St} {Q : Option Value → ab_St → Prop} : Ev d 93 41 [l0, l1, l2, l3, l4, l5] [.long s0, .long s1, .ref s2] σ Q = Ev d 93 42 [l0, l1, l2, l3, l4, l5] [.long (s1 + s0), .ref s2] σ Q := ev_A2 d93_41 rfl rfl
theorem d93_42 : decode (ab_C 93) 42 = .ok (.putfield 65, 3) := by decide +kernel
theorem e93_42 {d : Nat} {l0 l1 l2 l3 l4 l5 : Option Value} {s0 : Int64} {s1 : Nat} {σ : ab_St} {Q : Option Value → ab_St → Prop} : Ev d 93 42 [l0, l1, l2, l3, l4, l5] [.long s0, .ref s1] σ Q = (ab_k s1 = 9 ∧ Ev d 93 45 [l0, l1, l2, l3, l4, l5] [] (ab_wL σ s1 (vp_updL (σ.2 s1) 2 s0)) Q) := ev_Hc (c := ab_k s1 = 9) d93_42 rfl rfl rfl rfl rfl rfl rfl rfl
theorem d93_45 : decode (ab_C 93) 45 = .ok (.iinc 5 1, 3) := by decide +kernel
theorem e93_45 {d : Nat} {l0 l1 l2 l3 l4 : Option Value} {x : Int32} {σ : ab_St} {Q : Option Value → ab_St → Prop} : Ev d 93 45 [l0, l1, l2, l3, l4, some (.int x)] [] σ Q = Ev d 93 48 [l0, l1, l2, l3, l4, some (.int (x + 1))] [] σ Q := ev_S d93_45 rfl rfl rfl rfl
theorem d93_48 : decode (ab_C 93) 48 = .ok (.goto (-40), 3) := by decide +kernel
theorem e93_48 {d : Nat} {l0 l1 l2 l3 l4 l5 : Option Value} {σ : ab_St} {Q : Option Value → ab_St → Prop} : Ev d 93 48 [l0, l1, l2, l3, l4, l5] [] σ Q = Ev d 93 8 [l0, l1, l2, l3, l4, l5] [] σ Q := ev_J d93_48 rfl rfl rfl rfl rfl
theorem d93_51 : decode (ab_C 93) 51 = .ok (.aload_n 0, 1) := by decide +kernel
theorem e93_51 {d : Nat} {l1 l2 l3 l4 l5 : Option Value} {x : Nat} {σ : ab_St} {Q : Option Value → ab_St → Prop} : Ev d 93 51 [some (.ref x), l1, l2, l3, l4, l5] [] σ Q = Ev d 93 52 [some (.ref x), l1, l2, l3, l4, l5] [.ref x] σ Q := ev_A1 d93_51 rfl
theorem d93_52 : decode (ab_C 93) 52 = .ok (.getstatic 76, 3) := by decide +kernel
theorem e93_52 {d : Nat} {l0 l1 l2 l3 l4 l5 : Option Value} {s0 : Nat} {σ : ab_St} {Q : Option Value → ab_St → Prop} : Ev d 93 52 [l0, l1, l2, l3, l4, l5] [.ref s0] σ Q = Ev d 93 55 [l0, l1, l2, l3, l4, l5] [.null, .ref s0] σ Q := ev_H d93_52 rfl rfl rfl rfl rfl rfl
theorem d93_55 : decode (ab_C 93) 55 = .ok (.iload_n 3, 1) := by decide +kernel
theorem e93_55 {d : Nat} {l0 l1 l2 l4 l5 : Option Value} {x : Int32} {s1 : Nat} {σ : ab_St} {Q : Option Value → ab_St → Prop} : Ev d 93 55 [l0, l1, l2, some (.int x), l4, l5] [.null, .ref s1] σ Q = Ev d 93 56 [l0, l1, l2, some (.int x), l4, l5] [.int x, .null, .ref s1] σ Q := ev_A1 d93_55 rfl
theorem d93_56 : decode (ab_C 93) 56 = .ok (.iaload, 1) := by decide +kernel
theorem e93_56 {d : Nat} {l0 l1 l2 l3 l4 l5 : Option Value} {s0 : Int32} {s2 : Nat} {σ : ab_St} {Q : Option Value → ab_St → Prop} : Ev d 93 56 [l0, l1, l2, l3, l4, l5] [.int s0, .null, .ref s2] σ Q = (ab_in s0 9 ∧ Ev d 93 57 [l0, l1, l2, l3, l4, l5] [.int (ab_pw s0.toNatClampNeg), .ref s2] σ Q) := ev_Hc (c := ab_in s0 9) d93_56 rfl rfl rfl rfl rfl rfl rfl rfl
theorem d93_57 : decode (ab_C 93) 57 = .ok (.i2l, 1) := by decide +kernel
theorem e93_57 {d : Nat} {l0 l1 l2 l3 l4 l5 : Option Value} {s0 : Int32} {s1 : Nat} {σ : ab_St} {Q : Option Value → ab_St → Prop} : Ev d 93 57 [l0, l1, l2, l3, l4, l5] [.int s0, .ref s1] σ Q = Ev d 93 58 [l0, l1, l2, l3, l4, l5] [.long s0.toInt64, .ref s1] σ Q := ev_A2 d93_57 rfl rfl
theorem d93_58 : decode (ab_C 93) 58 = .ok (.putfield 22, 3) := by decide +kernel
theorem e93_58 {d : Nat} {l0 l1 l2 l3 l4 l5 : Option Value} {s0 : Int64} {s1 : Nat} {σ : ab_St} {Q : Option Value → ab_St → Prop} : Ev d 93 58 [l0, l1, l2, l3, l4, l5] [.long s0, .ref s1] σ Q = (ab_k s1 = 9 ∧ Ev d 93 61 [l0, l1, l2, l3, l4, l5] [] (ab_wL σ s1 (vp_updL (σ.2 s1) 3 s0)) Q) := ev_Hc (c := ab_k s1 = 9) d93_58 rfl rfl rfl rfl rfl rfl rfl rfl
theorem d93_61 : decode (ab_C 93) 61 = .ok (.aload_n 0, 1) := by decide +kernel
theorem e93_61 {d : Nat} {l1 l2 l3 l4 l5 : Option Value} {x : Nat} {σ : ab_St} {Q : Option Value → ab_St → Prop} : Ev d 93 61 [some (.ref x), l1, l2, l3, l4, l5] [] σ Q = Ev d 93 62 [some (.ref x), l1, l2, l3, l4, l5] [.ref x] σ Q := ev_A1 d93_61 rfl
theorem d93_62 : decode (ab_C 93) 62 = .ok (.iload_n 3, 1) := by decide +kernel
theorem e93_62 {d : Nat} {l0 l1 l2 l4 l5 : Option Value} {x : Int32} {s0 : Nat} {σ : ab_St} {Q : Option Value → ab_St → Prop} : Ev d 93 62 [l0, l1, l2, some (.int x), l4, l5] [.ref s0] σ Q = Ev d 93 63 [l0, l1, l2, some (.int x), l4, l5] [.int x, .ref s0] σ Q := ev_A1 d93_62 rfl
theorem d93_63 : decode (ab_C 93) 63 = .ok (.invokevirtual 79, 3) := by decide +kernel
theorem e93_63 {d : Nat} {l0 l1 l2 l3 l4 l5 : Option Value} {s0 : Int32} {s1 : Nat} {σ : ab_St} {Q : Option Value → ab_St → Prop} : Ev (d + 1) 93 63 [l0, l1, l2, l3, l4, l5] [.int s0, .ref s1] σ Q = (ab_k s1 = 9 ∧ Ev d 96 0 [some (.ref s1), some (.int s0), none] [] σ (fun r σ2 => Ev (d + 1) 93 66 [l0, l1, l2, l3, l4, l5] (r.toList ++ []) σ2 Q)) := ev_KV (b := s1) (ls := [l0, l1, l2, l3, l4, l5]) (st := [.int s0, .ref s1]) (as := [.int s0]) (rest := []) d93_63 rfl rfl rfl (Nat.le_of_ble_eq_true rfl) (Nat.le_of_ble_eq_true rfl) (Nat.le_of_ble_eq_true rfl) rfl rfl rfl rfl rfl rfl rfl
theorem d93_66 : decode (ab_C 93) 66 = .ok (.return_, 1) := by decide +kernel
theorem e93_66 {d : Nat} {l0 l1 l2 l3 l4 l5 : Option Value} {σ : ab_St} {Q : Option Value → ab_St → Prop} : Ev d 93 66 [l0, l1, l2, l3, l4, l5] [] σ Q = Q none σ := ev_E d93_66 rfl rfl rfl rfl rfl rfl rfl
/-! SaidLeast$Guesses.isLeastBehind(LSaidLeast$State;III)Z -/
theorem d94_0 : decode (ab_C 94) 0 = .ok (.aload_n 0, 1) := by decide +kernel
theorem e94_0 {d : Nat} {l1 l2 l3 l4 l5 l6 : Option Value} {x : Nat} {σ : ab_St} {Q : Option Value → ab_St → Prop} : Ev d 94 0 [some (.ref x), l1, l2, l3, l4, l5, l6] [] σ Q = Ev d 94 1 [some (.ref x), l1, l2, l3, l4, l5, l6] [.ref x] σ Q := ev_A1 d94_0 rfl
theorem d94_1 : decode (ab_C 94) 1 = .ok (.getfield 18, 3) := by decide +kernel
theorem e94_1 {d : Nat} {l0 l1 l2 l3 l4 l5 l6 : Option Value} {s0 : Nat} {σ : ab_St} {Q : Option Value → ab_St → Prop} : Ev d 94 1 [l0, l1, l2, l3, l4, l5, l6] [.ref s0] σ Q = (ab_k s0 = 9 ∧ Ev d 94 4 [l0, l1, l2, l3, l4, l5, l6] [.ref (ab_r s0 1)] σ Q) := ev_Hc (c := ab_k s0 = 9) d94_1 rfl rfl rfl rfl rfl rfl rfl rfl
theorem d94_4 : decode (ab_C 94) 4 = .ok (.aload_n 1, 1) := by decide +kernel
theorem e94_4 {d : Nat} {l0 l2 l3 l4 l5 l6 : Option Value} {x : Nat} {s0 : Nat} {σ : ab_St} {Q : Option Value → ab_St → Prop} : Ev d 94 4 [l0, some (.ref x), l2, l3, l4, l5, l6] [.ref s0] σ Q = Ev d 94 5 [l0, some (.ref x), l2, l3, l4, l5, l6] [.ref x, .ref s0] σ Q := ev_A1 d94_4 rfl
theorem d94_5 : decode (ab_C 94) 5 = .ok (.invokevirtual 83, 3) := by decide +kernel
theorem e94_5 {d : Nat} {l0 l1 l2 l3 l4 l5 l6 : Option Value} {s0 : Nat} {s1 : Nat} {σ : ab_St} {Q : Option Value → ab_St → Prop} : Ev (d + 1) 94 5 [l0, l1, l2, l3, l4, l5, l6] [.ref s0, .ref s1] σ Q = (ab_k s1 = 4 ∧ Ev d 35 0 [some (.ref s1), some (.ref s0)] [] σ (fun r σ2 => Ev (d + 1) 94 8 [l0, l1, l2, l3, l4, l5, l6] (r.toList ++ []) σ2 Q)) := ev_KV (b := s1) (ls := [l0, l1, l2, l3, l4, l5, l6]) (st := [.ref s0, .ref s1]) (as := [.ref s0]) (rest := []) d94_5 rfl rfl rfl (Nat.le_of_ble_eq_true rfl) (Nat.le_of_ble_eq_true rfl) (Nat.le_of_ble_eq_true rfl) rfl rfl rfl rfl rfl rfl rfl
theorem d94_8 : decode (ab_C 94) 8 = .ok (.iconst 0, 1) := by decide +kernel
theorem e94_8 {d : Nat} {l0 l1 l2 l3 l4 l5 l6 : Option Value} {σ : ab_St} {Q : Option Value → ab_St → Prop} : Ev d 94 8 [l0, l1, l2, l3, l4, l5, l6] [] σ Q = Ev d 94 9 [l0, l1, l2, l3, l4, l5, l6] [.int 0] σ Q := ev_A1 d94_8 rfl
theorem d94_9 : decode (ab_C 94) 9 = .ok (.istore 5, 2) := by decide +kernel
theorem e94_9 {d : Nat} {l0 l1 l2 l3 l4 l5 l6 : Option Value} {s0 : Int32} {σ : ab_St} {Q : Option Value → ab_St → Prop} : Ev d 94 9 [l0, l1, l2, l3, l4, l5, l6] [.int s0] σ Q = Ev d 94 11 [l0, l1, l2, l3, l4, some (.int s0), l6] [] σ Q := ev_S d94_9 rfl rfl rfl rfl
theorem d94_11 : decode (ab_C 94) 11 = .ok (.iload 5, 2) := by decide +kernel
theorem e94_11 {d : Nat} {l0 l1 l2 l3 l4 l6 : Option Value} {x : Int32} {σ : ab_St} {Q : Option Value → ab_St → Prop} : Ev d 94 11 [l0, l1, l2, l3, l4, some (.int x), l6] [] σ Q = Ev d 94 13 [l0, l1, l2, l3, l4, some (.int x), l6] [.int x] σ Q := ev_A1 d94_11 rfl
theorem d94_13 : decode (ab_C 94) 13 = .ok (.iload_n 3, 1) := by decide +kernel
theorem e94_13 {d : Nat} {l0 l1 l2 l4 l5 l6 : Option Value} {x : Int32} {s0 : Int32} {σ : ab_St} {Q : Option Value → ab_St → Prop} : Ev d 94 13 [l0, l1, l2, some (.int x), l4, l5, l6] [.int s0] σ Q = Ev d 94 14 [l0, l1, l2, some (.int x), l4, l5, l6] [.int x, .int s0] σ Q := ev_A1 d94_13 rfl
theorem d94_14 : decode (ab_C 94) 14 = .ok (.if_icmp .ge 56, 3) := by decide +kernel
theorem e94_14 {d : Nat} {l0 l1 l2 l3 l4 l5 l6 : Option Value} {s0 : Int32} {s1 : Int32} {σ : ab_St} {Q : Option Value → ab_St → Prop} : Ev d 94 14 [l0, l1, l2, l3, l4, l5, l6] [.int s0, .int s1] σ Q = if s0 ≤ s1 then Ev d 94 70 [l0, l1, l2, l3, l4, l5, l6] [] σ Q else Ev d 94 17 [l0, l1, l2, l3, l4, l5, l6] [] σ Q := ev_B (c := s0 ≤ s1) d94_14 rfl rfl rfl rfl rfl
theorem d94_17 : decode (ab_C 94) 17 = .ok (.aload_n 0, 1) := by decide +kernel
theorem e94_17 {d : Nat} {l1 l2 l3 l4 l5 l6 : Option Value} {x : Nat} {σ : ab_St} {Q : Option Value → ab_St → Prop} : Ev d 94 17 [some (.ref x), l1, l2, l3, l4, l5, l6] [] σ Q = Ev d 94 18 [some (.ref x), l1, l2, l3, l4, l5, l6] [.ref x] σ Q := ev_A1 d94_17 rfl
theorem d94_18 : decode (ab_C 94) 18 = .ok (.getfield 18, 3) := by decide +kernel
theorem e94_18 {d : Nat} {l0 l1 l2 l3 l4 l5 l6 : Option Value} {s0 : Nat} {σ : ab_St} {Q : Option Value → ab_St → Prop} : Ev d 94 18 [l0, l1, l2, l3, l4, l5, l6] [.ref s0] σ Q = (ab_k s0 = 9 ∧ Ev d 94 21 [l0, l1, l2, l3, l4, l5, l6] [.ref (ab_r s0 1)] σ Q) := ev_Hc (c := ab_k s0 = 9) d94_18 rfl rfl rfl rfl rfl rfl rfl rfl
theorem d94_21 : decode (ab_C 94) 21 = .ok (.invokevirtual 87, 3) := by decide +kernel
theorem e94_21 {d : Nat} {l0 l1 l2 l3 l4 l5 l6 : Option Value} {s0 : Nat} {σ : ab_St} {Q : Option Value → ab_St → Prop} : Ev (d + 1) 94 21 [l0, l1, l2, l3, l4, l5, l6] [.ref s0] σ Q = (ab_k s0 = 4 ∧ Ev d 38 0 [some (.ref s0), none, none, none] [] σ (fun r σ2 => Ev (d + 1) 94 24 [l0, l1, l2, l3, l4, l5, l6] (r.toList ++ []) σ2 Q)) := ev_KV (b := s0) (ls := [l0, l1, l2, l3, l4, l5, l6]) (st := [.ref s0]) (as := []) (rest := []) d94_21 rfl rfl rfl (Nat.le_of_ble_eq_true rfl) (Nat.le_of_ble_eq_true rfl) (Nat.le_of_ble_eq_true rfl) rfl rfl rfl rfl rfl rfl rfl
theorem d94_24 : decode (ab_C 94) 24 = .ok (.invokestatic 30, 3) := by decide +kernel
theorem e94_24 {d : Nat} {l0 l1 l2 l3 l4 l5 l6 : Option Value} {s0 : Int32} {σ : ab_St} {Q : Option Value → ab_St → Prop} : Ev (d + 1) 94 24 [l0, l1, l2, l3, l4, l5, l6] [.int s0] σ Q = Ev d 87 0 [some (.int s0), none] [] σ (fun r σ2 => Ev (d + 1) 94 27 [l0, l1, l2, l3, l4, l5, l6] (r.toList ++ []) σ2 Q) := ev_K0 (y := 87) (ls := [l0, l1, l2, l3, l4, l5, l6]) (st := [.int s0]) (as := [.int s0]) (rest := []) d94_24 rfl rfl rfl rfl rfl rfl rfl rfl
theorem d94_27 : decode (ab_C 94) 27 = .ok (.istore 6, 2) := by decide +kernel
theorem e94_27 {d : Nat} {l0 l1 l2 l3 l4 l5 l6 : Option Value} {s0 : Int32} {σ : ab_St} {Q : Option Value → ab_St → Prop} : Ev d 94 27 [l0, l1, l2, l3, l4, l5, l6] [.int s0] σ Q = Ev d 94 29 [l0, l1, l2, l3, l4, l5, some (.int s0)] [] σ Q := ev_S d94_27 rfl rfl rfl rfl
theorem d94_29 : decode (ab_C 94) 29 = .ok (.iload 6, 2) := by decide +kernel
theorem e94_29 {d : Nat} {l0 l1 l2 l3 l4 l5 : Option Value} {x : Int32} {σ : ab_St} {Q : Option Value → ab_St → Prop} : Ev d 94 29 [l0, l1, l2, l3, l4, l5, some (.int x)] [] σ Q = Ev d 94 31 [l0, l1, l2, l3, l4, l5, some (.int x)] [.int x] σ Q := ev_A1 d94_29 rfl
theorem d94_31 : decode (ab_C 94) 31 = .ok (.bipush (-9), 2) := by decide +kernel
theorem e94_31 {d : Nat} {l0 l1 l2 l3 l4 l5 l6 : Option Value} {s0 : Int32} {σ : ab_St} {Q : Option Value → ab_St → Prop} : Ev d 94 31 [l0, l1, l2, l3, l4, l5, l6] [.int s0] σ Q = Ev d 94 33 [l0, l1, l2, l3, l4, l5, l6] [.int (-9), .int s0] σ Q := ev_A1 d94_31 rfl
theorem d94_33 : decode (ab_C 94) 33 = .ok (.if_icmp .eq 31, 3) := by decide +kernel
theorem e94_33 {d : Nat} {l0 l1 l2 l3 l4 l5 l6 : Option Value} {s0 : Int32} {s1 : Int32} {σ : ab_St} {Q : Option Value → ab_St → Prop} : Ev d 94 33 [l0, l1, l2, l3, l4, l5, l6] [.int s0, .int s1] σ Q = if s1 = s0 then Ev d 94 64 [l0, l1, l2, l3, l4, l5, l6] [] σ Q else Ev d 94 36 [l0, l1, l2, l3, l4, l5, l6] [] σ Q := ev_B (c := s1 = s0) d94_33 rfl rfl rfl rfl rfl
theorem d94_36 : decode (ab_C 94) 36 = .ok (.aload_n 0, 1) := by decide +kernel
theorem e94_36 {d : Nat} {l1 l2 l3 l4 l5 l6 : Option Value} {x : Nat} {σ : ab_St} {Q : Option Value → ab_St → Prop} : Ev d 94 36 [some (.ref x), l1, l2, l3, l4, l5, l6] [] σ Q = Ev d 94 37 [some (.ref x), l1, l2, l3, l4, l5, l6] [.ref x] σ Q := ev_A1 d94_36 rfl
theorem d94_37 : decode (ab_C 94) 37 = .ok (.getfield 18, 3) := by decide +kernel
theorem e94_37 {d : Nat} {l0 l1 l2 l3 l4 l5 l6 : Option Value} {s0 : Nat} {σ : ab_St} {Q : Option Value → ab_St → Prop} : Ev d 94 37 [l0, l1, l2, l3, l4, l5, l6] [.ref s0] σ Q = (ab_k s0 = 9 ∧ Ev d 94 40 [l0, l1, l2, l3, l4, l5, l6] [.ref (ab_r s0 1)] σ Q) := ev_Hc (c := ab_k s0 = 9) d94_37 rfl rfl rfl rfl rfl rfl rfl rfl
theorem d94_40 : decode (ab_C 94) 40 = .ok (.getfield 34, 3) := by decide +kernel
theorem e94_40 {d : Nat} {l0 l1 l2 l3 l4 l5 l6 : Option Value} {s0 : Nat} {σ : ab_St} {Q : Option Value → ab_St → Prop} : Ev d 94 40 [l0, l1, l2, l3, l4, l5, l6] [.ref s0] σ Q = (ab_k s0 = 4 ∧ Ev d 94 43 [l0, l1, l2, l3, l4, l5, l6] [.ref (ab_r s0 0)] σ Q) := ev_Hc (c := ab_k s0 = 4) d94_40 rfl rfl rfl rfl rfl rfl rfl rfl
theorem d94_43 : decode (ab_C 94) 43 = .ok (.iload 6, 2) := by decide +kernel
theorem e94_43 {d : Nat} {l0 l1 l2 l3 l4 l5 : Option Value} {x : Int32} {s0 : Nat} {σ : ab_St} {Q : Option Value → ab_St → Prop} : Ev d 94 43 [l0, l1, l2, l3, l4, l5, some (.int x)] [.ref s0] σ Q = Ev d 94 45 [l0, l1, l2, l3, l4, l5, some (.int x)] [.int x, .ref s0] σ Q := ev_A1 d94_43 rfl
theorem d94_45 : decode (ab_C 94) 45 = .ok (.dup2, 1) := by decide +kernel
theorem e94_45 {d : Nat} {l0 l1 l2 l3 l4 l5 l6 : Option Value} {s0 : Int32} {s1 : Nat} {σ : ab_St} {Q : Option Value → ab_St → Prop} : Ev d 94 45 [l0, l1, l2, l3, l4, l5, l6] [.int s0, .ref s1] σ Q = Ev d 94 46 [l0, l1, l2, l3, l4, l5, l6] [.int s0, .ref s1, .int s0, .ref s1] σ Q := ev_A1 d94_45 rfl
theorem d94_46 : decode (ab_C 94) 46 = .ok (.iaload, 1) := by decide +kernel
theorem e94_46 {d : Nat} {l0 l1 l2 l3 l4 l5 l6 : Option Value} {s0 : Int32} {s1 : Nat} {s2 : Int32} {s3 : Nat} {σ : ab_St} {Q : Option Value → ab_St → Prop} : Ev d 94 46 [l0, l1, l2, l3, l4, l5, l6] [.int s0, .ref s1, .int s2, .ref s3] σ Q = ((ab_k s1 = 100 ∧ ab_in s0 (ab_n s1)) ∧ Ev d 94 47 [l0, l1, l2, l3, l4, l5, l6] [.int (σ.1 s1 s0.toNatClampNeg), .int s2, .ref s3] σ Q) := ev_Hc (c := ab_k s1 = 100 ∧ ab_in s0 (ab_n s1)) d94_46 rfl rfl rfl rfl rfl rfl rfl rfl
theorem d94_47 : decode (ab_C 94) 47 = .ok (.iload 4, 2) := by decide +kernel
theorem e94_47 {d : Nat} {l0 l1 l2 l3 l5 l6 : Option Value} {x : Int32} {s0 : Int32} {s1 : Int32} {s2 : Nat} {σ : ab_St} {Q : Option Value → ab_St → Prop} : Ev d 94 47 [l0, l1, l2, l3, some (.int x), l5, l6] [.int s0, .int s1, .ref s2] σ Q = Ev d 94 49 [l0, l1, l2, l3, some (.int x), l5, l6] [.int x, .int s0, .int s1, .ref s2] σ Q := ev_A1 d94_47 rfl
theorem d94_49 : decode (ab_C 94) 49 = .ok (.iload 5, 2) := by decide +kernel
theorem e94_49 {d : Nat} {l0 l1 l2 l3 l4 l6 : Option Value} {x : Int32} {s0 : Int32} {s1 : Int32} {s2 : Int32} {s3 : Nat} {σ : ab_St} {Q : Option Value → ab_St → Prop} : Ev d 94 49 [l0, l1, l2, l3, l4, some (.int x), l6] [.int s0, .int s1, .int s2, .ref s3] σ Q = Ev d 94 51 [l0, l1, l2, l3, l4, some (.int x), l6] [.int x, .int s0, .int s1, .int s2, .ref s3] σ Q := ev_A1 d94_49 rfl
theorem d94_51 : decode (ab_C 94) 51 = .ok (.invokestatic 48, 3) := by decide +kernel
theorem e94_51 {d : Nat} {l0 l1 l2 l3 l4 l5 l6 : Option Value} {s0 : Int32} {s1 : Int32} {s2 : Int32} {s3 : Int32} {s4 : Nat} {σ : ab_St} {Q : Option Value → ab_St → Prop} : Ev (d + 1) 94 51 [l0, l1, l2, l3, l4, l5, l6] [.int s0, .int s1, .int s2, .int s3, .ref s4] σ Q = Ev d 32 0 [some (.int s1), some (.int s0)] [] σ (fun r σ2 => Ev (d + 1) 94 54 [l0, l1, l2, l3, l4, l5, l6] (r.toList ++ [.int s2, .int s3, .ref s4]) σ2 Q) := ev_K0 (y := 32) (ls := [l0, l1, l2, l3, l4, l5, l6]) (st := [.int s0, .int s1, .int s2, .int s3, .ref s4]) (as := [.int s1, .int s0]) (rest := [.int s2, .int s3, .ref s4]) d94_51 rfl rfl rfl rfl rfl rfl rfl rfl
theorem d94_54 : decode (ab_C 94) 54 = .ok (.ifCond .eq 7, 3) := by decide +kernel
theorem e94_54 {d : Nat} {l0 l1 l2 l3 l4 l5 l6 : Option Value} {s0 : Int32} {s1 : Int32} {s2 : Int32} {s3 : Nat} {σ : ab_St} {Q : Option Value → ab_St → Prop} : Ev d 94 54 [l0, l1, l2, l3, l4, l5, l6] [.int s0, .int s1, .int s2, .ref s3] σ Q = if s0 = 0 then Ev d 94 61 [l0, l1, l2, l3, l4, l5, l6] [.int s1, .int s2, .ref s3] σ Q else Ev d 94 57 [l0, l1, l2, l3, l4, l5, l6] [.int s1, .int s2, .ref s3] σ Q := ev_B (c := s0 = 0) d94_54 rfl rfl rfl rfl rfl
theorem d94_57 : decode (ab_C 94) 57 = .ok (.iconst 2, 1) := by decide +kernel
theorem e94_57 {d : Nat} {l0 l1 l2 l3 l4 l5 l6 : Option Value} {s0 : Int32} {s1 : Int32} {s2 : Nat} {σ : ab_St} {Q : Option Value → ab_St → Prop} : Ev d 94 57 [l0, l1, l2, l3, l4, l5, l6] [.int s0, .int s1, .ref s2] σ Q = Ev d 94 58 [l0, l1, l2, l3, l4, l5, l6] [.int 2, .int s0, .int s1, .ref s2] σ Q := ev_A1 d94_57 rfl
theorem d94_58 : decode (ab_C 94) 58 = .ok (.goto 4, 3) := by decide +kernel
theorem e94_58 {d : Nat} {l0 l1 l2 l3 l4 l5 l6 : Option Value} {s0 : Int32} {s1 : Int32} {s2 : Int32} {s3 : Nat} {σ : ab_St} {Q : Option Value → ab_St → Prop} : Ev d 94 58 [l0, l1, l2, l3, l4, l5, l6] [.int s0, .int s1, .int s2, .ref s3] σ Q = Ev d 94 62 [l0, l1, l2, l3, l4, l5, l6] [.int s0, .int s1, .int s2, .ref s3] σ Q := ev_J d94_58 rfl rfl rfl rfl rfl
theorem d94_61 : decode (ab_C 94) 61 = .ok (.iconst 1, 1) := by decide +kernel
theorem e94_61 {d : Nat} {l0 l1 l2 l3 l4 l5 l6 : Option Value} {s0 : Int32} {s1 : Int32} {s2 : Nat} {σ : ab_St} {Q : Option Value → ab_St → Prop} : Ev d 94 61 [l0, l1, l2, l3, l4, l5, l6] [.int s0, .int s1, .ref s2] σ Q = Ev d 94 62 [l0, l1, l2, l3, l4, l5, l6] [.int 1, .int s0, .int s1, .ref s2] σ Q := ev_A1 d94_61 rfl
theorem d94_62 : decode (ab_C 94) 62 = .ok (.iadd, 1) := by decide +kernel
theorem e94_62 {d : Nat} {l0 l1 l2 l3 l4 l5 l6 : Option Value} {s0 : Int32} {s1 : Int32} {s2 : Int32} {s3 : Nat} {σ : ab_St} {Q : Option Value → ab_St → Prop} : Ev d 94 62 [l0, l1, l2, l3, l4, l5, l6] [.int s0, .int s1, .int s2, .ref s3] σ Q = Ev d 94 63 [l0, l1, l2, l3, l4, l5, l6] [.int (s1 + s0), .int s2, .ref s3] σ Q := ev_A2 d94_62 rfl rfl
theorem d94_63 : decode (ab_C 94) 63 = .ok (.iastore, 1) := by decide +kernel
theorem e94_63 {d : Nat} {l0 l1 l2 l3 l4 l5 l6 : Option Value} {s0 : Int32} {s1 : Int32} {s2 : Nat} {σ : ab_St} {Q : Option Value → ab_St → Prop} : Ev d 94 63 [l0, l1, l2, l3, l4, l5, l6] [.int s0, .int s1, .ref s2] σ Q = ((ab_k s2 = 100 ∧ ab_in s1 (ab_n s2)) ∧ Ev d 94 64 [l0, l1, l2, l3, l4, l5, l6] [] (ab_wI σ s2 (upd (σ.1 s2) s1.toNatClampNeg s0)) Q) := ev_Hc (c := ab_k s2 = 100 ∧ ab_in s1 (ab_n s2)) d94_63 rfl rfl rfl rfl rfl rfl rfl rfl
theorem d94_64 : decode (ab_C 94) 64 = .ok (.iinc 5 1, 3) := by decide +kernel
theorem e94_64 {d : Nat} {l0 l1 l2 l3 l4 l6 : Option Value} {x : Int32} {σ : ab_St} {Q : Option Value → ab_St → Prop} : Ev d 94 64 [l0, l1, l2, l3, l4, some (.int x), l6] [] σ Q = Ev d 94 67 [l0, l1, l2, l3, l4, some (.int (x + 1)), l6] [] σ Q := ev_S d94_64 rfl rfl rfl rfl
theorem d94_67 : decode (ab_C 94) 67 = .ok (.goto (-56), 3) := by decide +kernel
theorem e94_67 {d : Nat} {l0 l1 l2 l3 l4 l5 l6 : Option Value} {σ : ab_St} {Q : Option Value → ab_St → Prop} : Ev d 94 67 [l0, l1, l2, l3, l4, l5, l6] [] σ Q = Ev d 94 11 [l0, l1, l2, l3, l4, l5, l6] [] σ Q := ev_J d94_67 rfl rfl rfl rfl rfl
theorem d94_70 : decode (ab_C 94) 70 = .ok (.aload_n 0, 1) := by decide +kernel
theorem e94_70 {d : Nat} {l1 l2 l3 l4 l5 l6 : Option Value} {x : Nat} {σ : ab_St} {Q : Option Value → ab_St → Prop} : Ev d 94 70 [some (.ref x), l1, l2, l3, l4, l5, l6] [] σ Q = Ev d 94 71 [some (.ref x), l1, l2, l3, l4, l5, l6] [.ref x] σ Q := ev_A1 d94_70 rfl
theorem d94_71 : decode (ab_C 94) 71 = .ok (.getfield 18, 3) := by decide +kernel
theorem e94_71 {d : Nat} {l0 l1 l2 l3 l4 l5 l6 : Option Value} {s0 : Nat} {σ : ab_St} {Q : Option Value → ab_St → Prop} : Ev d 94 71 [l0, l1, l2, l3, l4, l5, l6] [.ref s0] σ Q = (ab_k s0 = 9 ∧ Ev d 94 74 [l0, l1, l2, l3, l4, l5, l6] [.ref (ab_r s0 1)] σ Q) := ev_Hc (c := ab_k s0 = 9) d94_71 rfl rfl rfl rfl rfl rfl rfl rfl
theorem d94_74 : decode (ab_C 94) 74 = .ok (.invokevirtual 87, 3) := by decide +kernel
theorem e94_74 {d : Nat} {l0 l1 l2 l3 l4 l5 l6 : Option Value} {s0 : Nat} {σ : ab_St} {Q : Option Value → ab_St → Prop} : Ev (d + 1) 94 74 [l0, l1, l2, l3, l4, l5, l6] [.ref s0] σ Q = (ab_k s0 = 4 ∧ Ev d 38 0 [some (.ref s0), none, none, none] [] σ (fun r σ2 => Ev (d + 1) 94 77 [l0, l1, l2, l3, l4, l5, l6] (r.toList ++ []) σ2 Q)) := ev_KV (b := s0) (ls := [l0, l1, l2, l3, l4, l5, l6]) (st := [.ref s0]) (as := []) (rest := []) d94_74 rfl rfl rfl (Nat.le_of_ble_eq_true rfl) (Nat.le_of_ble_eq_true rfl) (Nat.le_of_ble_eq_true rfl) rfl rfl rfl rfl rfl rfl rfl
theorem d94_77 : decode (ab_C 94) 77 = .ok (.iload_n 2, 1) := by decide +kernel
theorem e94_77 {d : Nat} {l0 l1 l3 l4 l5 l6 : Option Value} {x : Int32} {s0 : Int32} {σ : ab_St} {Q : Option Value → ab_St → Prop} : Ev d 94 77 [l0, l1, some (.int x), l3, l4, l5, l6] [.int s0] σ Q = Ev d 94 78 [l0, l1, some (.int x), l3, l4, l5, l6] [.int x, .int s0] σ Q := ev_A1 d94_77 rfl
theorem d94_78 : decode (ab_C 94) 78 = .ok (.invokestatic 48, 3) := by decide +kernel
theorem e94_78 {d : Nat} {l0 l1 l2 l3 l4 l5 l6 : Option Value} {s0 : Int32} {s1 : Int32} {σ : ab_St} {Q : Option Value → ab_St → Prop} : Ev (d + 1) 94 78 [l0, l1, l2, l3, l4, l5, l6] [.int s0, .int s1] σ Q = Ev d 32 0 [some (.int s1), some (.int s0)] [] σ (fun r σ2 => Ev (d + 1) 94 81 [l0, l1, l2, l3, l4, l5, l6] (r.toList ++ []) σ2 Q) := ev_K0 (y := 32) (ls := [l0, l1, l2, l3, l4, l5, l6]) (st := [.int s0, .int s1]) (as := [.int s1, .int s0]) (rest := []) d94_78 rfl rfl rfl rfl rfl rfl rfl rfl
theorem d94_81 : decode (ab_C 94) 81 = .ok (.ireturn, 1) := by decide +kernel
theorem e94_81 {d : Nat} {l0 l1 l2 l3 l4 l5 l6 : Option Value} {s0 : Int32} {σ : ab_St} {Q : Option Value → ab_St → Prop} : Ev d 94 81 [l0, l1, l2, l3, l4, l5, l6] [.int s0] σ Q = ((s0 = 0 ∨ s0 = 1) ∧ Q (some (.int s0)) σ) := ev_Z d94_81 rfl
/-! SaidLeast$Guesses.weight(III)J -/
theorem d95_0 : decode (ab_C 95) 0 = .ok (.lconst 1, 1) := by decide +kernel
theorem e95_0 {d : Nat} {l0 l1 l2 l3 l4 l5 : Option Value} {σ : ab_St} {Q : Option Value → ab_St → Prop} : Ev d 95 0 [l0, l1, l2, l3, l4, l5] [] σ Q = Ev d 95 1 [l0, l1, l2, l3, l4, l5] [.long 1] σ Q := ev_A1 d95_0 rfl
theorem d95_1 : decode (ab_C 95) 1 = .ok (.lstore_n 3, 1) := by decide +kernel
theorem e95_1 {d : Nat} {l0 l1 l2 l3 l4 l5 : Option Value} {s0 : Int64} {σ : ab_St} {Q : Option Value → ab_St → Prop} : Ev d 95 1 [l0, l1, l2, l3, l4, l5] [.long s0] σ Q = Ev d 95 2 [l0, l1, l2, some (.long s0), none, l5] [] σ Q := ev_S d95_1 rfl rfl rfl rfl
theorem d95_2 : decode (ab_C 95) 2 = .ok (.iconst 0, 1) := by decide +kernel
theorem e95_2 {d : Nat} {l0 l1 l2 l3 l4 l5 : Option Value} {σ : ab_St} {Q : Option Value → ab_St → Prop} : Ev d 95 2 [l0, l1, l2, l3, l4, l5] [] σ Q = Ev d 95 3 [l0, l1, l2, l3, l4, l5] [.int 0] σ Q := ev_A1 d95_2 rfl
theorem d95_3 : decode (ab_C 95) 3 = .ok (.istore 5, 2) := by decide +kernel
theorem e95_3 {d : Nat} {l0 l1 l2 l3 l4 l5 : Option Value} {s0 : Int32} {σ : ab_St} {Q : Option Value → ab_St → Prop} : Ev d 95 3 [l0, l1, l2, l3, l4, l5] [.int s0] σ Q = Ev d 95 5 [l0, l1, l2, l3, l4, some (.int s0)] [] σ Q := ev_S d95_3 rfl rfl rfl rfl
theorem d95_5 : decode (ab_C 95) 5 = .ok (.iload 5, 2) := by decide +kernel
theorem e95_5 {d : Nat} {l0 l1 l2 l3 l4 : Option Value} {x : Int32} {σ : ab_St} {Q : Option Value → ab_St → Prop} : Ev d 95 5 [l0, l1, l2, l3, l4, some (.int x)] [] σ Q = Ev d 95 7 [l0, l1, l2, l3, l4, some (.int x)] [.int x] σ Q := ev_A1 d95_5 rfl
theorem d95_7 : decode (ab_C 95) 7 = .ok (.iload_n 0, 1) := by decide +kernel
theorem e95_7 {d : Nat} {l1 l2 l3 l4 l5 : Option Value} {x : Int32} {s0 : Int32} {σ : ab_St} {Q : Option Value → ab_St → Prop} : Ev d 95 7 [some (.int x), l1, l2, l3, l4, l5] [.int s0] σ Q = Ev d 95 8 [some (.int x), l1, l2, l3, l4, l5] [.int x, .int s0] σ Q := ev_A1 d95_7 rfl
theorem d95_8 : decode (ab_C 95) 8 = .ok (.if_icmp .ge 31, 3) := by decide +kernel
theorem e95_8 {d : Nat} {l0 l1 l2 l3 l4 l5 : Option Value} {s0 : Int32} {s1 : Int32} {σ : ab_St} {Q : Option Value → ab_St → Prop} : Ev d 95 8 [l0, l1, l2, l3, l4, l5] [.int s0, .int s1] σ Q = if s0 ≤ s1 then Ev d 95 39 [l0, l1, l2, l3, l4, l5] [] σ Q else Ev d 95 11 [l0, l1, l2, l3, l4, l5] [] σ Q := ev_B (c := s0 ≤ s1) d95_8 rfl rfl rfl rfl rfl
theorem d95_11 : decode (ab_C 95) 11 = .ok (.lload_n 3, 1) := by decide +kernel
theorem e95_11 {d : Nat} {l0 l1 l2 l5 : Option Value} {x : Int64} {σ : ab_St} {Q : Option Value → ab_St → Prop} : Ev d 95 11 [l0, l1, l2, some (.long x), none, l5] [] σ Q = Ev d 95 12 [l0, l1, l2, some (.long x), none, l5] [.long x] σ Q := ev_A1 d95_11 rfl
theorem d95_12 : decode (ab_C 95) 12 = .ok (.iload_n 2, 1) := by decide +kernel
theorem e95_12 {d : Nat} {l0 l1 l3 l4 l5 : Option Value} {x : Int32} {s0 : Int64} {σ : ab_St} {Q : Option Value → ab_St → Prop} : Ev d 95 12 [l0, l1, some (.int x), l3, l4, l5] [.long s0] σ Q = Ev d 95 13 [l0, l1, some (.int x), l3, l4, l5] [.int x, .long s0] σ Q := ev_A1 d95_12 rfl
theorem d95_13 : decode (ab_C 95) 13 = .ok (.iload 5, 2) := by decide +kernel
theorem e95_13 {d : Nat} {l0 l1 l2 l3 l4 : Option Value} {x : Int32} {s0 : Int32} {s1 : Int64} {σ : ab_St} {Q : Option Value → ab_St → Prop} : Ev d 95 13 [l0, l1, l2, l3, l4, some (.int x)] [.int s0, .long s1] σ Q = Ev d 95 15 [l0, l1, l2, l3, l4, some (.int x)] [.int x, .int s0, .long s1] σ Q := ev_A1 d95_13 rfl
theorem d95_15 : decode (ab_C 95) 15 = .ok (.invokestatic 48, 3) := by decide +kernel
theorem e95_15 {d : Nat} {l0 l1 l2 l3 l4 l5 : Option Value} {s0 : Int32} {s1 : Int32} {s2 : Int64} {σ : ab_St} {Q : Option Value → ab_St → Prop} : Ev (d + 1) 95 15 [l0, l1, l2, l3, l4, l5] [.int s0, .int s1, .long s2] σ Q = Ev d 32 0 [some (.int s1), some (.int s0)] [] σ (fun r σ2 => Ev (d + 1) 95 18 [l0, l1, l2, l3, l4, l5] (r.toList ++ [.long s2]) σ2 Q) := ev_K0 (y := 32) (ls := [l0, l1, l2, l3, l4, l5]) (st := [.int s0, .int s1, .long s2]) (as := [.int s1, .int s0]) (rest := [.long s2]) d95_15 rfl rfl rfl rfl rfl rfl rfl rfl
theorem d95_18 : decode (ab_C 95) 18 = .ok (.ifCond .eq 11, 3) := by decide +kernel
theorem e95_18 {d : Nat} {l0 l1 l2 l3 l4 l5 : Option Value} {s0 : Int32} {s1 : Int64} {σ : ab_St} {Q : Option Value → ab_St → Prop} : Ev d 95 18 [l0, l1, l2, l3, l4, l5] [.int s0, .long s1] σ Q = if s0 = 0 then Ev d 95 29 [l0, l1, l2, l3, l4, l5] [.long s1] σ Q else Ev d 95 21 [l0, l1, l2, l3, l4, l5] [.long s1] σ Q := ev_B (c := s0 = 0) d95_18 rfl rfl rfl rfl rfl
theorem d95_21 : decode (ab_C 95) 21 = .ok (.bipush 10, 2) := by decide +kernel
theorem e95_21 {d : Nat} {l0 l1 l2 l3 l4 l5 : Option Value} {s0 : Int64} {σ : ab_St} {Q : Option Value → ab_St → Prop} : Ev d 95 21 [l0, l1, l2, l3, l4, l5] [.long s0] σ Q = Ev d 95 23 [l0, l1, l2, l3, l4, l5] [.int 10, .long s0] σ Q := ev_A1 d95_21 rfl
theorem d95_23 : decode (ab_C 95) 23 = .ok (.iload_n 1, 1) := by decide +kernel
theorem e95_23 {d : Nat} {l0 l2 l3 l4 l5 : Option Value} {x : Int32} {s0 : Int32} {s1 : Int64} {σ : ab_St} {Q : Option Value → ab_St → Prop} : Ev d 95 23 [l0, some (.int x), l2, l3, l4, l5] [.int s0, .long s1] σ Q = Ev d 95 24 [l0, some (.int x), l2, l3, l4, l5] [.int x, .int s0, .long s1] σ Q := ev_A1 d95_23 rfl
theorem d95_24 : decode (ab_C 95) 24 = .ok (.isub, 1) := by decide +kernel
theorem e95_24 {d : Nat} {l0 l1 l2 l3 l4 l5 : Option Value} {s0 : Int32} {s1 : Int32} {s2 : Int64} {σ : ab_St} {Q : Option Value → ab_St → Prop} : Ev d 95 24 [l0, l1, l2, l3, l4, l5] [.int s0, .int s1, .long s2] σ Q = Ev d 95 25 [l0, l1, l2, l3, l4, l5] [.int (s1 - s0), .long s2] σ Q := ev_A2 d95_24 rfl rfl
theorem d95_25 : decode (ab_C 95) 25 = .ok (.i2l, 1) := by decide +kernel
theorem e95_25 {d : Nat} {l0 l1 l2 l3 l4 l5 : Option Value} {s0 : Int32} {s1 : Int64} {σ : ab_St} {Q : Option Value → ab_St → Prop} : Ev d 95 25 [l0, l1, l2, l3, l4, l5] [.int s0, .long s1] σ Q = Ev d 95 26 [l0, l1, l2, l3, l4, l5] [.long s0.toInt64, .long s1] σ Q := ev_A2 d95_25 rfl rfl
theorem d95_26 : decode (ab_C 95) 26 = .ok (.goto 5, 3) := by decide +kernel
theorem e95_26 {d : Nat} {l0 l1 l2 l3 l4 l5 : Option Value} {s0 : Int64} {s1 : Int64} {σ : ab_St} {Q : Option Value → ab_St → Prop} : Ev d 95 26 [l0, l1, l2, l3, l4, l5] [.long s0, .long s1] σ Q = Ev d 95 31 [l0, l1, l2, l3, l4, l5] [.long s0, .long s1] σ Q := ev_J d95_26 rfl rfl rfl rfl rfl
theorem d95_29 : decode (ab_C 95) 29 = .ok (.iload_n 1, 1) := by decide +kernel
theorem e95_29 {d : Nat} {l0 l2 l3 l4 l5 : Option Value} {x : Int32} {s0 : Int64} {σ : ab_St} {Q : Option Value → ab_St → Prop} : Ev d 95 29 [l0, some (.int x), l2, l3, l4, l5] [.long s0] σ Q = Ev d 95 30 [l0, some (.int x), l2, l3, l4, l5] [.int x, .long s0] σ Q := ev_A1 d95_29 rfl
theorem d95_30 : decode (ab_C 95) 30 = .ok (.i2l, 1) := by decide +kernel
theorem e95_30 {d : Nat} {l0 l1 l2 l3 l4 l5 : Option Value} {s0 : Int32} {s1 : Int64} {σ : ab_St} {Q : Option Value → ab_St → Prop} : Ev d 95 30 [l0, l1, l2, l3, l4, l5] [.int s0, .long s1] σ Q = Ev d 95 31 [l0, l1, l2, l3, l4, l5] [.long s0.toInt64, .long s1] σ Q := ev_A2 d95_30 rfl rfl
theorem d95_31 : decode (ab_C 95) 31 = .ok (.lmul, 1) := by decide +kernel
theorem e95_31 {d : Nat} {l0 l1 l2 l3 l4 l5 : Option Value} {s0 : Int64} {s1 : Int64} {σ : ab_St} {Q : Option Value → ab_St → Prop} : Ev d 95 31 [l0, l1, l2, l3, l4, l5] [.long s0, .long s1] σ Q = Ev d 95 32 [l0, l1, l2, l3, l4, l5] [.long (s1 * s0)] σ Q := ev_A2 d95_31 rfl rfl
theorem d95_32 : decode (ab_C 95) 32 = .ok (.lstore_n 3, 1) := by decide +kernel
theorem e95_32 {d : Nat} {l0 l1 l2 l3 l4 l5 : Option Value} {s0 : Int64} {σ : ab_St} {Q : Option Value → ab_St → Prop} : Ev d 95 32 [l0, l1, l2, l3, l4, l5] [.long s0] σ Q = Ev d 95 33 [l0, l1, l2, some (.long s0), none, l5] [] σ Q := ev_S d95_32 rfl rfl rfl rfl
theorem d95_33 : decode (ab_C 95) 33 = .ok (.iinc 5 1, 3) := by decide +kernel
theorem e95_33 {d : Nat} {l0 l1 l2 l3 l4 : Option Value} {x : Int32} {σ : ab_St} {Q : Option Value → ab_St → Prop} : Ev d 95 33 [l0, l1, l2, l3, l4, some (.int x)] [] σ Q = Ev d 95 36 [l0, l1, l2, l3, l4, some (.int (x + 1))] [] σ Q := ev_S d95_33 rfl rfl rfl rfl
theorem d95_36 : decode (ab_C 95) 36 = .ok (.goto (-31), 3) := by decide +kernel
theorem e95_36 {d : Nat} {l0 l1 l2 l3 l4 l5 : Option Value} {σ : ab_St} {Q : Option Value → ab_St → Prop} : Ev d 95 36 [l0, l1, l2, l3, l4, l5] [] σ Q = Ev d 95 5 [l0, l1, l2, l3, l4, l5] [] σ Q := ev_J d95_36 rfl rfl rfl rfl rfl
theorem d95_39 : decode (ab_C 95) 39 = .ok (.lload_n 3, 1) := by decide +kernel
theorem e95_39 {d : Nat} {l0 l1 l2 l5 : Option Value} {x : Int64} {σ : ab_St} {Q : Option Value → ab_St → Prop} : Ev d 95 39 [l0, l1, l2, some (.long x), none, l5] [] σ Q = Ev d 95 40 [l0, l1, l2, some (.long x), none, l5] [.long x] σ Q := ev_A1 d95_39 rfl
theorem d95_40 : decode (ab_C 95) 40 = .ok (.lreturn, 1) := by decide +kernel
theorem e95_40 {d : Nat} {l0 l1 l2 l3 l4 l5 : Option Value} {s0 : Int64} {σ : ab_St} {Q : Option Value → ab_St → Prop} : Ev d 95 40 [l0, l1, l2, l3, l4, l5] [.long s0] σ Q = Q (some (.long s0)) σ := ev_E d95_40 rfl rfl rfl rfl rfl rfl rfl
/-! SaidLeast$Guesses.cancel(I)V -/
theorem d96_0 : decode (ab_C 96) 0 = .ok (.iconst 0, 1) := by decide +kernel
theorem e96_0 {d : Nat} {l0 l1 l2 : Option Value} {σ : ab_St} {Q : Option Value → ab_St → Prop} : Ev d 96 0 [l0, l1, l2] [] σ Q = Ev d 96 1 [l0, l1, l2] [.int 0] σ Q := ev_A1 d96_0 rfl
theorem d96_1 : decode (ab_C 96) 1 = .ok (.istore_n 2, 1) := by decide +kernel
theorem e96_1 {d : Nat} {l0 l1 l2 : Option Value} {s0 : Int32} {σ : ab_St} {Q : Option Value → ab_St → Prop} : Ev d 96 1 [l0, l1, l2] [.int s0] σ Q = Ev d 96 2 [l0, l1, some (.int s0)] [] σ Q := ev_S d96_1 rfl rfl rfl rfl
theorem d96_2 : decode (ab_C 96) 2 = .ok (.iload_n 2, 1) := by decide +kernel
theorem e96_2 {d : Nat} {l0 l1 : Option Value} {x : Int32} {σ : ab_St} {Q : Option Value → ab_St → Prop} : Ev d 96 2 [l0, l1, some (.int x)] [] σ Q = Ev d 96 3 [l0, l1, some (.int x)] [.int x] σ Q := ev_A1 d96_2 rfl
theorem d96_3 : decode (ab_C 96) 3 = .ok (.iload_n 1, 1) := by decide +kernel
theorem e96_3 {d : Nat} {l0 l2 : Option Value} {x : Int32} {s0 : Int32} {σ : ab_St} {Q : Option Value → ab_St → Prop} : Ev d 96 3 [l0, some (.int x), l2] [.int s0] σ Q = Ev d 96 4 [l0, some (.int x), l2] [.int x, .int s0] σ Q := ev_A1 d96_3 rfl
theorem d96_4 : decode (ab_C 96) 4 = .ok (.if_icmp .ge 109, 3) := by decide +kernel
theorem e96_4 {d : Nat} {l0 l1 l2 : Option Value} {s0 : Int32} {s1 : Int32} {σ : ab_St} {Q : Option Value → ab_St → Prop} : Ev d 96 4 [l0, l1, l2] [.int s0, .int s1] σ Q = if s0 ≤ s1 then Ev d 96 113 [l0, l1, l2] [] σ Q else Ev d 96 7 [l0, l1, l2] [] σ Q := ev_B (c := s0 ≤ s1) d96_4 rfl rfl rfl rfl rfl
theorem d96_7 : decode (ab_C 96) 7 = .ok (.aload_n 0, 1) := by decide +kernel
theorem e96_7 {d : Nat} {l1 l2 : Option Value} {x : Nat} {σ : ab_St} {Q : Option Value → ab_St → Prop} : Ev d 96 7 [some (.ref x), l1, l2] [] σ Q = Ev d 96 8 [some (.ref x), l1, l2] [.ref x] σ Q := ev_A1 d96_7 rfl
theorem d96_8 : decode (ab_C 96) 8 = .ok (.getfield 65, 3) := by decide +kernel
theorem e96_8 {d : Nat} {l0 l1 l2 : Option Value} {s0 : Nat} {σ : ab_St} {Q : Option Value → ab_St → Prop} : Ev d 96 8 [l0, l1, l2] [.ref s0] σ Q = (ab_k s0 = 9 ∧ Ev d 96 11 [l0, l1, l2] [.long (σ.2 s0 2)] σ Q) := ev_Hc (c := ab_k s0 = 9) d96_8 rfl rfl rfl rfl rfl rfl rfl rfl
theorem d96_11 : decode (ab_C 96) 11 = .ok (.ldc2_w 91, 3) := by decide +kernel
theorem e96_11 {d : Nat} {l0 l1 l2 : Option Value} {s0 : Int64} {σ : ab_St} {Q : Option Value → ab_St → Prop} : Ev d 96 11 [l0, l1, l2] [.long s0] σ Q = Ev d 96 14 [l0, l1, l2] [.long 2, .long s0] σ Q := ev_A1 d96_11 rfl
theorem d96_14 : decode (ab_C 96) 14 = .ok (.lrem, 1) := by decide +kernel
theorem e96_14 {d : Nat} {l0 l1 l2 : Option Value} {s0 : Int64} {s1 : Int64} {σ : ab_St} {Q : Option Value → ab_St → Prop} : Ev d 96 14 [l0, l1, l2] [.long s0, .long s1] σ Q = (¬ s0 = 0 ∧ Ev d 96 15 [l0, l1, l2] [.long (s1 - s1 / s0 * s0)] σ Q) := ev_D (c := s0 = 0) d96_14 rfl rfl rfl rfl rfl rfl rfl rfl
theorem d96_15 : decode (ab_C 96) 15 = .ok (.lconst 0, 1) := by decide +kernel
theorem e96_15 {d : Nat} {l0 l1 l2 : Option Value} {s0 : Int64} {σ : ab_St} {Q : Option Value → ab_St → Prop} : Ev d 96 15 [l0, l1, l2] [.long s0] σ Q = Ev d 96 16 [l0, l1, l2] [.long 0, .long s0] σ Q := ev_A1 d96_15 rfl
theorem d96_16 : decode (ab_C 96) 16 = .ok (.lcmp, 1) := by decide +kernel
theorem e96_16 {d : Nat} {l0 l1 l2 : Option Value} {s0 : Int64} {s1 : Int64} {σ : ab_St} {Q : Option Value → ab_St → Prop} : Ev d 96 16 [l0, l1, l2] [.long s0, .long s1] σ Q = Ev d 96 17 [l0, l1, l2] [.int (lg_cmp s1 s0)] σ Q := ev_A2 d96_16 rfl rfl
theorem d96_17 : decode (ab_C 96) 17 = .ok (.ifCond .ne 40, 3) := by decide +kernel
theorem e96_17 {d : Nat} {l0 l1 l2 : Option Value} {s0 : Int32} {σ : ab_St} {Q : Option Value → ab_St → Prop} : Ev d 96 17 [l0, l1, l2] [.int s0] σ Q = if s0 = 0 then Ev d 96 20 [l0, l1, l2] [] σ Q else Ev d 96 57 [l0, l1, l2] [] σ Q := ev_B (c := s0 = 0) d96_17 rfl rfl rfl rfl rfl
theorem d96_20 : decode (ab_C 96) 20 = .ok (.aload_n 0, 1) := by decide +kernel
theorem e96_20 {d : Nat} {l1 l2 : Option Value} {x : Nat} {σ : ab_St} {Q : Option Value → ab_St → Prop} : Ev d 96 20 [some (.ref x), l1, l2] [] σ Q = Ev d 96 21 [some (.ref x), l1, l2] [.ref x] σ Q := ev_A1 d96_20 rfl
theorem d96_21 : decode (ab_C 96) 21 = .ok (.getfield 22, 3) := by decide +kernel
theorem e96_21 {d : Nat} {l0 l1 l2 : Option Value} {s0 : Nat} {σ : ab_St} {Q : Option Value → ab_St → Prop} : Ev d 96 21 [l0, l1, l2] [.ref s0] σ Q = (ab_k s0 = 9 ∧ Ev d 96 24 [l0, l1, l2] [.long (σ.2 s0 3)] σ Q) := ev_Hc (c := ab_k s0 = 9) d96_21 rfl rfl rfl rfl rfl rfl rfl rfl
theorem d96_24 : decode (ab_C 96) 24 = .ok (.ldc2_w 91, 3) := by decide +kernel
theorem e96_24 {d : Nat} {l0 l1 l2 : Option Value} {s0 : Int64} {σ : ab_St} {Q : Option Value → ab_St → Prop} : Ev d 96 24 [l0, l1, l2] [.long s0] σ Q = Ev d 96 27 [l0, l1, l2] [.long 2, .long s0] σ Q := ev_A1 d96_24 rfl
theorem d96_27 : decode (ab_C 96) 27 = .ok (.lrem, 1) := by decide +kernel
theorem e96_27 {d : Nat} {l0 l1 l2 : Option Value} {s0 : Int64} {s1 : Int64} {σ : ab_St} {Q : Option Value → ab_St → Prop} : Ev d 96 27 [l0, l1, l2] [.long s0, .long s1] σ Q = (¬ s0 = 0 ∧ Ev d 96 28 [l0, l1, l2] [.long (s1 - s1 / s0 * s0)] σ Q) := ev_D (c := s0 = 0) d96_27 rfl rfl rfl rfl rfl rfl rfl rfl
theorem d96_28 : decode (ab_C 96) 28 = .ok (.lconst 0, 1) := by decide +kernel
theorem e96_28 {d : Nat} {l0 l1 l2 : Option Value} {s0 : Int64} {σ : ab_St} {Q : Option Value → ab_St → Prop} : Ev d 96 28 [l0, l1, l2] [.long s0] σ Q = Ev d 96 29 [l0, l1, l2] [.long 0, .long s0] σ Q := ev_A1 d96_28 rfl
theorem d96_29 : decode (ab_C 96) 29 = .ok (.lcmp, 1) := by decide +kernel
theorem e96_29 {d : Nat} {l0 l1 l2 : Option Value} {s0 : Int64} {s1 : Int64} {σ : ab_St} {Q : Option Value → ab_St → Prop} : Ev d 96 29 [l0, l1, l2] [.long s0, .long s1] σ Q = Ev d 96 30 [l0, l1, l2] [.int (lg_cmp s1 s0)] σ Q := ev_A2 d96_29 rfl rfl
theorem d96_30 : decode (ab_C 96) 30 = .ok (.ifCond .ne 27, 3) := by decide +kernel
theorem e96_30 {d : Nat} {l0 l1 l2 : Option Value} {s0 : Int32} {σ : ab_St} {Q : Option Value → ab_St → Prop} : Ev d 96 30 [l0, l1, l2] [.int s0] σ Q = if s0 = 0 then Ev d 96 33 [l0, l1, l2] [] σ Q else Ev d 96 57 [l0, l1, l2] [] σ Q := ev_B (c := s0 = 0) d96_30 rfl rfl rfl rfl rfl
theorem d96_33 : decode (ab_C 96) 33 = .ok (.aload_n 0, 1) := by decide +kernel
theorem e96_33 {d : Nat} {l1 l2 : Option Value} {x : Nat} {σ : ab_St} {Q : Option Value → ab_St → Prop} : Ev d 96 33 [some (.ref x), l1, l2] [] σ Q = Ev d 96 34 [some (.ref x), l1, l2] [.ref x] σ Q := ev_A1 d96_33 rfl
theorem d96_34 : decode (ab_C 96) 34 = .ok (.dup, 1) := by decide +kernel
theorem e96_34 {d : Nat} {l0 l1 l2 : Option Value} {s0 : Nat} {σ : ab_St} {Q : Option Value → ab_St → Prop} : Ev d 96 34 [l0, l1, l2] [.ref s0] σ Q = Ev d 96 35 [l0, l1, l2] [.ref s0, .ref s0] σ Q := ev_A1 d96_34 rfl
theorem d96_35 : decode (ab_C 96) 35 = .ok (.getfield 65, 3) := by decide +kernel
theorem e96_35 {d : Nat} {l0 l1 l2 : Option Value} {s0 : Nat} {s1 : Nat} {σ : ab_St} {Q : Option Value → ab_St → Prop} : Ev d 96 35 [l0, l1, l2] [.ref s0, .ref s1] σ Q = (ab_k s0 = 9 ∧ Ev d 96 38 [l0, l1, l2] [.long (σ.2 s0 2), .ref s1] σ Q) := ev_Hc (c := ab_k s0 = 9) d96_35 rfl rfl rfl rfl rfl rfl rfl rfl
theorem d96_38 : decode (ab_C 96) 38 = .ok (.ldc2_w 91, 3) := by decide +kernel
theorem e96_38 {d : Nat} {l0 l1 l2 : Option Value} {s0 : Int64} {s1 : Nat} {σ : ab_St} {Q : Option Value → ab_St → Prop} : Ev d 96 38 [l0, l1, l2] [.long s0, .ref s1] σ Q = Ev d 96 41 [l0, l1, l2] [.long 2, .long s0, .ref s1] σ Q := ev_A1 d96_38 rfl
theorem d96_41 : decode (ab_C 96) 41 = .ok (.ldiv, 1) := by decide +kernel
theorem e96_41 {d : Nat} {l0 l1 l2 : Option Value} {s0 : Int64} {s1 : Int64} {s2 : Nat} {σ : ab_St} {Q : Option Value → ab_St → Prop} : Ev d 96 41 [l0, l1, l2] [.long s0, .long s1, .ref s2] σ Q = (¬ s0 = 0 ∧ Ev d 96 42 [l0, l1, l2] [.long (s1 / s0), .ref s2] σ Q) := ev_D (c := s0 = 0) d96_41 rfl rfl rfl rfl rfl rfl rfl rfl
theorem d96_42 : decode (ab_C 96) 42 = .ok (.putfield 65, 3) := by decide +kernel
theorem e96_42 {d : Nat} {l0 l1 l2 : Option Value} {s0 : Int64} {s1 : Nat} {σ : ab_St} {Q : Option Value → ab_St → Prop} : Ev d 96 42 [l0, l1, l2] [.long s0, .ref s1] σ Q = (ab_k s1 = 9 ∧ Ev d 96 45 [l0, l1, l2] [] (ab_wL σ s1 (vp_updL (σ.2 s1) 2 s0)) Q) := ev_Hc (c := ab_k s1 = 9) d96_42 rfl rfl rfl rfl rfl rfl rfl rfl
theorem d96_45 : decode (ab_C 96) 45 = .ok (.aload_n 0, 1) := by decide +kernel
theorem e96_45 {d : Nat} {l1 l2 : Option Value} {x : Nat} {σ : ab_St} {Q : Option Value → ab_St → Prop} : Ev d 96 45 [some (.ref x), l1, l2] [] σ Q = Ev d 96 46 [some (.ref x), l1, l2] [.ref x] σ Q := ev_A1 d96_45 rfl
theorem d96_46 : decode (ab_C 96) 46 = .ok (.dup, 1) := by decide +kernel
theorem e96_46 {d : Nat} {l0 l1 l2 : Option Value} {s0 : Nat} {σ : ab_St} {Q : Option Value → ab_St → Prop} : Ev d 96 46 [l0, l1, l2] [.ref s0] σ Q = Ev d 96 47 [l0, l1, l2] [.ref s0, .ref s0] σ Q := ev_A1 d96_46 rfl
theorem d96_47 : decode (ab_C 96) 47 = .ok (.getfield 22, 3) := by decide +kernel
theorem e96_47 {d : Nat} {l0 l1 l2 : Option Value} {s0 : Nat} {s1 : Nat} {σ : ab_St} {Q : Option Value → ab_St → Prop} : Ev d 96 47 [l0, l1, l2] [.ref s0, .ref s1] σ Q = (ab_k s0 = 9 ∧ Ev d 96 50 [l0, l1, l2] [.long (σ.2 s0 3), .ref s1] σ Q) := ev_Hc (c := ab_k s0 = 9) d96_47 rfl rfl rfl rfl rfl rfl rfl rfl
theorem d96_50 : decode (ab_C 96) 50 = .ok (.ldc2_w 91, 3) := by decide +kernel
theorem e96_50 {d : Nat} {l0 l1 l2 : Option Value} {s0 : Int64} {s1 : Nat} {σ : ab_St} {Q : Option Value → ab_St → Prop} : Ev d 96 50 [l0, l1, l2] [.long s0, .ref s1] σ Q = Ev d 96 53 [l0, l1, l2] [.long 2, .long s0, .ref s1] σ Q := ev_A1 d96_50 rfl
theorem d96_53 : decode (ab_C 96) 53 = .ok (.ldiv, 1) := by decide +kernel
theorem e96_53 {d : Nat} {l0 l1 l2 : Option Value} {s0 : Int64} {s1 : Int64} {s2 : Nat} {σ : ab_St} {Q : Option Value → ab_St → Prop} : Ev d 96 53 [l0, l1, l2] [.long s0, .long s1, .ref s2] σ Q = (¬ s0 = 0 ∧ Ev d 96 54 [l0, l1, l2] [.long (s1 / s0), .ref s2] σ Q) := ev_D (c := s0 = 0) d96_53 rfl rfl rfl rfl rfl rfl rfl rfl
theorem d96_54 : decode (ab_C 96) 54 = .ok (.putfield 22, 3) := by decide +kernel
theorem e96_54 {d : Nat} {l0 l1 l2 : Option Value} {s0 : Int64} {s1 : Nat} {σ : ab_St} {Q : Option Value → ab_St → Prop} : Ev d 96 54 [l0, l1, l2] [.long s0, .ref s1] σ Q = (ab_k s1 = 9 ∧ Ev d 96 57 [l0, l1, l2] [] (ab_wL σ s1 (vp_updL (σ.2 s1) 3 s0)) Q) := ev_Hc (c := ab_k s1 = 9) d96_54 rfl rfl rfl rfl rfl rfl rfl rfl
theorem d96_57 : decode (ab_C 96) 57 = .ok (.aload_n 0, 1) := by decide +kernel
theorem e96_57 {d : Nat} {l1 l2 : Option Value} {x : Nat} {σ : ab_St} {Q : Option Value → ab_St → Prop} : Ev d 96 57 [some (.ref x), l1, l2] [] σ Q = Ev d 96 58 [some (.ref x), l1, l2] [.ref x] σ Q := ev_A1 d96_57 rfl
theorem d96_58 : decode (ab_C 96) 58 = .ok (.getfield 65, 3) := by decide +kernel
theorem e96_58 {d : Nat} {l0 l1 l2 : Option Value} {s0 : Nat} {σ : ab_St} {Q : Option Value → ab_St → Prop} : Ev d 96 58 [l0, l1, l2] [.ref s0] σ Q = (ab_k s0 = 9 ∧ Ev d 96 61 [l0, l1, l2] [.long (σ.2 s0 2)] σ Q) := ev_Hc (c := ab_k s0 = 9) d96_58 rfl rfl rfl rfl rfl rfl rfl rfl
theorem d96_61 : decode (ab_C 96) 61 = .ok (.ldc2_w 93, 3) := by decide +kernel
theorem e96_61 {d : Nat} {l0 l1 l2 : Option Value} {s0 : Int64} {σ : ab_St} {Q : Option Value → ab_St → Prop} : Ev d 96 61 [l0, l1, l2] [.long s0] σ Q = Ev d 96 64 [l0, l1, l2] [.long 5, .long s0] σ Q := ev_A1 d96_61 rfl
theorem d96_64 : decode (ab_C 96) 64 = .ok (.lrem, 1) := by decide +kernel
theorem e96_64 {d : Nat} {l0 l1 l2 : Option Value} {s0 : Int64} {s1 : Int64} {σ : ab_St} {Q : Option Value → ab_St → Prop} : Ev d 96 64 [l0, l1, l2] [.long s0, .long s1] σ Q = (¬ s0 = 0 ∧ Ev d 96 65 [l0, l1, l2] [.long (s1 - s1 / s0 * s0)] σ Q) := ev_D (c := s0 = 0) d96_64 rfl rfl rfl rfl rfl rfl rfl rfl
theorem d96_65 : decode (ab_C 96) 65 = .ok (.lconst 0, 1) := by decide +kernel
theorem e96_65 {d : Nat} {l0 l1 l2 : Option Value} {s0 : Int64} {σ : ab_St} {Q : Option Value → ab_St → Prop} : Ev d 96 65 [l0, l1, l2] [.long s0] σ Q = Ev d 96 66 [l0, l1, l2] [.long 0, .long s0] σ Q := ev_A1 d96_65 rfl
theorem d96_66 : decode (ab_C 96) 66 = .ok (.lcmp, 1) := by decide +kernel
theorem e96_66 {d : Nat} {l0 l1 l2 : Option Value} {s0 : Int64} {s1 : Int64} {σ : ab_St} {Q : Option Value → ab_St → Prop} : Ev d 96 66 [l0, l1, l2] [.long s0, .long s1] σ Q = Ev d 96 67 [l0, l1, l2] [.int (lg_cmp s1 s0)] σ Q := ev_A2 d96_66 rfl rfl
theorem d96_67 : decode (ab_C 96) 67 = .ok (.ifCond .ne 40, 3) := by decide +kernel
theorem e96_67 {d : Nat} {l0 l1 l2 : Option Value} {s0 : Int32} {σ : ab_St} {Q : Option Value → ab_St → Prop} : Ev d 96 67 [l0, l1, l2] [.int s0] σ Q = if s0 = 0 then Ev d 96 70 [l0, l1, l2] [] σ Q else Ev d 96 107 [l0, l1, l2] [] σ Q := ev_B (c := s0 = 0) d96_67 rfl rfl rfl rfl rfl
theorem d96_70 : decode (ab_C 96) 70 = .ok (.aload_n 0, 1) := by decide +kernel
theorem e96_70 {d : Nat} {l1 l2 : Option Value} {x : Nat} {σ : ab_St} {Q : Option Value → ab_St → Prop} : Ev d 96 70 [some (.ref x), l1, l2] [] σ Q = Ev d 96 71 [some (.ref x), l1, l2] [.ref x] σ Q := ev_A1 d96_70 rfl
theorem d96_71 : decode (ab_C 96) 71 = .ok (.getfield 22, 3) := by decide +kernel
theorem e96_71 {d : Nat} {l0 l1 l2 : Option Value} {s0 : Nat} {σ : ab_St} {Q : Option Value → ab_St → Prop} : Ev d 96 71 [l0, l1, l2] [.ref s0] σ Q = (ab_k s0 = 9 ∧ Ev d 96 74 [l0, l1, l2] [.long (σ.2 s0 3)] σ Q) := ev_Hc (c := ab_k s0 = 9) d96_71 rfl rfl rfl rfl rfl rfl rfl rfl
theorem d96_74 : decode (ab_C 96) 74 = .ok (.ldc2_w 93, 3) := by decide +kernel
theorem e96_74 {d : Nat} {l0 l1 l2 : Option Value} {s0 : Int64} {σ : ab_St} {Q : Option Value → ab_St → Prop} : Ev d 96 74 [l0, l1, l2] [.long s0] σ Q = Ev d 96 77 [l0, l1, l2] [.long 5, .long s0] σ Q := ev_A1 d96_74 rfl
theorem d96_77 : decode (ab_C 96) 77 = .ok (.lrem, 1) := by decide +kernel
theorem e96_77 {d : Nat} {l0 l1 l2 : Option Value} {s0 : Int64} {s1 : Int64} {σ : ab_St} {Q : Option Value → ab_St → Prop} : Ev d 96 77 [l0, l1, l2] [.long s0, .long s1] σ Q = (¬ s0 = 0 ∧ Ev d 96 78 [l0, l1, l2] [.long (s1 - s1 / s0 * s0)] σ Q) := ev_D (c := s0 = 0) d96_77 rfl rfl rfl rfl rfl rfl rfl rfl
theorem d96_78 : decode (ab_C 96) 78 = .ok (.lconst 0, 1) := by decide +kernel
theorem e96_78 {d : Nat} {l0 l1 l2 : Option Value} {s0 : Int64} {σ : ab_St} {Q : Option Value → ab_St → Prop} : Ev d 96 78 [l0, l1, l2] [.long s0] σ Q = Ev d 96 79 [l0, l1, l2] [.long 0, .long s0] σ Q := ev_A1 d96_78 rfl
theorem d96_79 : decode (ab_C 96) 79 = .ok (.lcmp, 1) := by decide +kernel
theorem e96_79 {d : Nat} {l0 l1 l2 : Option Value} {s0 : Int64} {s1 : Int64} {σ : ab_St} {Q : Option Value → ab_St → Prop} : Ev d 96 79 [l0, l1, l2] [.long s0, .long s1] σ Q = Ev d 96 80 [l0, l1, l2] [.int (lg_cmp s1 s0)] σ Q := ev_A2 d96_79 rfl rfl
theorem d96_80 : decode (ab_C 96) 80 = .ok (.ifCond .ne 27, 3) := by decide +kernel
theorem e96_80 {d : Nat} {l0 l1 l2 : Option Value} {s0 : Int32} {σ : ab_St} {Q : Option Value → ab_St → Prop} : Ev d 96 80 [l0, l1, l2] [.int s0] σ Q = if s0 = 0 then Ev d 96 83 [l0, l1, l2] [] σ Q else Ev d 96 107 [l0, l1, l2] [] σ Q := ev_B (c := s0 = 0) d96_80 rfl rfl rfl rfl rfl
theorem d96_83 : decode (ab_C 96) 83 = .ok (.aload_n 0, 1) := by decide +kernel
theorem e96_83 {d : Nat} {l1 l2 : Option Value} {x : Nat} {σ : ab_St} {Q : Option Value → ab_St → Prop} : Ev d 96 83 [some (.ref x), l1, l2] [] σ Q = Ev d 96 84 [some (.ref x), l1, l2] [.ref x] σ Q := ev_A1 d96_83 rfl
theorem d96_84 : decode (ab_C 96) 84 = .ok (.dup, 1) := by decide +kernel
theorem e96_84 {d : Nat} {l0 l1 l2 : Option Value} {s0 : Nat} {σ : ab_St} {Q : Option Value → ab_St → Prop} : Ev d 96 84 [l0, l1, l2] [.ref s0] σ Q = Ev d 96 85 [l0, l1, l2] [.ref s0, .ref s0] σ Q := ev_A1 d96_84 rfl
theorem d96_85 : decode (ab_C 96) 85 = .ok (.getfield 65, 3) := by decide +kernel
theorem e96_85 {d : Nat} {l0 l1 l2 : Option Value} {s0 : Nat} {s1 : Nat} {σ : ab_St} {Q : Option Value → ab_St → Prop} : Ev d 96 85 [l0, l1, l2] [.ref s0, .ref s1] σ Q = (ab_k s0 = 9 ∧ Ev d 96 88 [l0, l1, l2] [.long (σ.2 s0 2), .ref s1] σ Q) := ev_Hc (c := ab_k s0 = 9) d96_85 rfl rfl rfl rfl rfl rfl rfl rfl
theorem d96_88 : decode (ab_C 96) 88 = .ok (.ldc2_w 93, 3) := by decide +kernel
theorem e96_88 {d : Nat} {l0 l1 l2 : Option Value} {s0 : Int64} {s1 : Nat} {σ : ab_St} {Q : Option Value → ab_St → Prop} : Ev d 96 88 [l0, l1, l2] [.long s0, .ref s1] σ Q = Ev d 96 91 [l0, l1, l2] [.long 5, .long s0, .ref s1] σ Q := ev_A1 d96_88 rfl
theorem d96_91 : decode (ab_C 96) 91 = .ok (.ldiv, 1) := by decide +kernel
theorem e96_91 {d : Nat} {l0 l1 l2 : Option Value} {s0 : Int64} {s1 : Int64} {s2 : Nat} {σ : ab_St} {Q : Option Value → ab_St → Prop} : Ev d 96 91 [l0, l1, l2] [.long s0, .long s1, .ref s2] σ Q = (¬ s0 = 0 ∧ Ev d 96 92 [l0, l1, l2] [.long (s1 / s0), .ref s2] σ Q) := ev_D (c := s0 = 0) d96_91 rfl rfl rfl rfl rfl rfl rfl rfl
theorem d96_92 : decode (ab_C 96) 92 = .ok (.putfield 65, 3) := by decide +kernel
theorem e96_92 {d : Nat} {l0 l1 l2 : Option Value} {s0 : Int64} {s1 : Nat} {σ : ab_St} {Q : Option Value → ab_St → Prop} : Ev d 96 92 [l0, l1, l2] [.long s0, .ref s1] σ Q = (ab_k s1 = 9 ∧ Ev d 96 95 [l0, l1, l2] [] (ab_wL σ s1 (vp_updL (σ.2 s1) 2 s0)) Q) := ev_Hc (c := ab_k s1 = 9) d96_92 rfl rfl rfl rfl rfl rfl rfl rfl
theorem d96_95 : decode (ab_C 96) 95 = .ok (.aload_n 0, 1) := by decide +kernel
theorem e96_95 {d : Nat} {l1 l2 : Option Value} {x : Nat} {σ : ab_St} {Q : Option Value → ab_St → Prop} : Ev d 96 95 [some (.ref x), l1, l2] [] σ Q = Ev d 96 96 [some (.ref x), l1, l2] [.ref x] σ Q := ev_A1 d96_95 rfl
theorem d96_96 : decode (ab_C 96) 96 = .ok (.dup, 1) := by decide +kernel
theorem e96_96 {d : Nat} {l0 l1 l2 : Option Value} {s0 : Nat} {σ : ab_St} {Q : Option Value → ab_St → Prop} : Ev d 96 96 [l0, l1, l2] [.ref s0] σ Q = Ev d 96 97 [l0, l1, l2] [.ref s0, .ref s0] σ Q := ev_A1 d96_96 rfl
theorem d96_97 : decode (ab_C 96) 97 = .ok (.getfield 22, 3) := by decide +kernel
theorem e96_97 {d : Nat} {l0 l1 l2 : Option Value} {s0 : Nat} {s1 : Nat} {σ : ab_St} {Q : Option Value → ab_St → Prop} : Ev d 96 97 [l0, l1, l2] [.ref s0, .ref s1] σ Q = (ab_k s0 = 9 ∧ Ev d 96 100 [l0, l1, l2] [.long (σ.2 s0 3), .ref s1] σ Q) := ev_Hc (c := ab_k s0 = 9) d96_97 rfl rfl rfl rfl rfl rfl rfl rfl
theorem d96_100 : decode (ab_C 96) 100 = .ok (.ldc2_w 93, 3) := by decide +kernel
theorem e96_100 {d : Nat} {l0 l1 l2 : Option Value} {s0 : Int64} {s1 : Nat} {σ : ab_St} {Q : Option Value → ab_St → Prop} : Ev d 96 100 [l0, l1, l2] [.long s0, .ref s1] σ Q = Ev d 96 103 [l0, l1, l2] [.long 5, .long s0, .ref s1] σ Q := ev_A1 d96_100 rfl
theorem d96_103 : decode (ab_C 96) 103 = .ok (.ldiv, 1) := by decide +kernel
theorem e96_103 {d : Nat} {l0 l1 l2 : Option Value} {s0 : Int64} {s1 : Int64} {s2 : Nat} {σ : ab_St} {Q : Option Value → ab_St → Prop} : Ev d 96 103 [l0, l1, l2] [.long s0, .long s1, .ref s2] σ Q = (¬ s0 = 0 ∧ Ev d 96 104 [l0, l1, l2] [.long (s1 / s0), .ref s2] σ Q) := ev_D (c := s0 = 0) d96_103 rfl rfl rfl rfl rfl rfl rfl rfl
theorem d96_104 : decode (ab_C 96) 104 = .ok (.putfield 22, 3) := by decide +kernel
theorem e96_104 {d : Nat} {l0 l1 l2 : Option Value} {s0 : Int64} {s1 : Nat} {σ : ab_St} {Q : Option Value → ab_St → Prop} : Ev d 96 104 [l0, l1, l2] [.long s0, .ref s1] σ Q = (ab_k s1 = 9 ∧ Ev d 96 107 [l0, l1, l2] [] (ab_wL σ s1 (vp_updL (σ.2 s1) 3 s0)) Q) := ev_Hc (c := ab_k s1 = 9) d96_104 rfl rfl rfl rfl rfl rfl rfl rfl
theorem d96_107 : decode (ab_C 96) 107 = .ok (.iinc 2 1, 3) := by decide +kernel
theorem e96_107 {d : Nat} {l0 l1 : Option Value} {x : Int32} {σ : ab_St} {Q : Option Value → ab_St → Prop} : Ev d 96 107 [l0, l1, some (.int x)] [] σ Q = Ev d 96 110 [l0, l1, some (.int (x + 1))] [] σ Q := ev_S d96_107 rfl rfl rfl rfl
theorem d96_110 : decode (ab_C 96) 110 = .ok (.goto (-108), 3) := by decide +kernel
theorem e96_110 {d : Nat} {l0 l1 l2 : Option Value} {σ : ab_St} {Q : Option Value → ab_St → Prop} : Ev d 96 110 [l0, l1, l2] [] σ Q = Ev d 96 2 [l0, l1, l2] [] σ Q := ev_J d96_110 rfl rfl rfl rfl rfl
theorem d96_113 : decode (ab_C 96) 113 = .ok (.return_, 1) := by decide +kernel
theorem e96_113 {d : Nat} {l0 l1 l2 : Option Value} {σ : ab_St} {Q : Option Value → ab_St → Prop} : Ev d 96 113 [l0, l1, l2] [] σ Q = Q none σ := ev_E d96_113 rfl rfl rfl rfl rfl rfl rfl
/-! SaidLeast.keep(I)I -/
theorem d97_0 : decode (ab_C 97) 0 = .ok (.iload_n 1, 1) := by decide +kernel
theorem e97_0 {d : Nat} {l0 : Option Value} {x : Int32} {σ : ab_St} {Q : Option Value → ab_St → Prop} : Ev d 97 0 [l0, some (.int x)] [] σ Q = Ev d 97 1 [l0, some (.int x)] [.int x] σ Q := ev_A1 d97_0 rfl
theorem d97_1 : decode (ab_C 97) 1 = .ok (.ifCond .lt 8, 3) := by decide +kernel
theorem e97_1 {d : Nat} {l0 l1 : Option Value} {s0 : Int32} {σ : ab_St} {Q : Option Value → ab_St → Prop} : Ev d 97 1 [l0, l1] [.int s0] σ Q = if s0 < 0 then Ev d 97 9 [l0, l1] [] σ Q else Ev d 97 4 [l0, l1] [] σ Q := ev_B (c := s0 < 0) d97_1 rfl rfl rfl rfl rfl
theorem d97_4 : decode (ab_C 97) 4 = .ok (.iload_n 1, 1) := by decide +kernel
theorem e97_4 {d : Nat} {l0 : Option Value} {x : Int32} {σ : ab_St} {Q : Option Value → ab_St → Prop} : Ev d 97 4 [l0, some (.int x)] [] σ Q = Ev d 97 5 [l0, some (.int x)] [.int x] σ Q := ev_A1 d97_4 rfl
theorem d97_5 : decode (ab_C 97) 5 = .ok (.iconst 2, 1) := by decide +kernel
theorem e97_5 {d : Nat} {l0 l1 : Option Value} {s0 : Int32} {σ : ab_St} {Q : Option Value → ab_St → Prop} : Ev d 97 5 [l0, l1] [.int s0] σ Q = Ev d 97 6 [l0, l1] [.int 2, .int s0] σ Q := ev_A1 d97_5 rfl
theorem d97_6 : decode (ab_C 97) 6 = .ok (.if_icmp .lt 5, 3) := by decide +kernel
theorem e97_6 {d : Nat} {l0 l1 : Option Value} {s0 : Int32} {s1 : Int32} {σ : ab_St} {Q : Option Value → ab_St → Prop} : Ev d 97 6 [l0, l1] [.int s0, .int s1] σ Q = if s1 < s0 then Ev d 97 11 [l0, l1] [] σ Q else Ev d 97 9 [l0, l1] [] σ Q := ev_B (c := s1 < s0) d97_6 rfl rfl rfl rfl rfl
theorem d97_9 : decode (ab_C 97) 9 = .ok (.iconst (-1), 1) := by decide +kernel
theorem e97_9 {d : Nat} {l0 l1 : Option Value} {σ : ab_St} {Q : Option Value → ab_St → Prop} : Ev d 97 9 [l0, l1] [] σ Q = Ev d 97 10 [l0, l1] [.int (-1)] σ Q := ev_A1 d97_9 rfl
theorem d97_10 : decode (ab_C 97) 10 = .ok (.ireturn, 1) := by decide +kernel
theorem e97_10 {d : Nat} {l0 l1 : Option Value} {s0 : Int32} {σ : ab_St} {Q : Option Value → ab_St → Prop} : Ev d 97 10 [l0, l1] [.int s0] σ Q = Q (some (.int s0)) σ := ev_E d97_10 rfl rfl rfl rfl rfl rfl rfl
theorem d97_11 : decode (ab_C 97) 11 = .ok (.aload_n 0, 1) := by decide +kernel
theorem e97_11 {d : Nat} {l1 : Option Value} {x : Nat} {σ : ab_St} {Q : Option Value → ab_St → Prop} : Ev d 97 11 [some (.ref x), l1] [] σ Q = Ev d 97 12 [some (.ref x), l1] [.ref x] σ Q := ev_A1 d97_11 rfl
theorem d97_12 : decode (ab_C 97) 12 = .ok (.getfield 47, 3) := by decide +kernel
theorem e97_12 {d : Nat} {l0 l1 : Option Value} {s0 : Nat} {σ : ab_St} {Q : Option Value → ab_St → Prop} : Ev d 97 12 [l0, l1] [.ref s0] σ Q = (ab_k s0 = 0 ∧ Ev d 97 15 [l0, l1] [.ref (ab_r s0 6)] σ Q) := ev_Hc (c := ab_k s0 = 0) d97_12 rfl rfl rfl rfl rfl rfl rfl rfl
theorem d97_15 : decode (ab_C 97) 15 = .ok (.iload_n 1, 1) := by decide +kernel
theorem e97_15 {d : Nat} {l0 : Option Value} {x : Int32} {s0 : Nat} {σ : ab_St} {Q : Option Value → ab_St → Prop} : Ev d 97 15 [l0, some (.int x)] [.ref s0] σ Q = Ev d 97 16 [l0, some (.int x)] [.int x, .ref s0] σ Q := ev_A1 d97_15 rfl
theorem d97_16 : decode (ab_C 97) 16 = .ok (.aaload, 1) := by decide +kernel
theorem e97_16 {d : Nat} {l0 l1 : Option Value} {s0 : Int32} {s1 : Nat} {σ : ab_St} {Q : Option Value → ab_St → Prop} : Ev d 97 16 [l0, l1] [.int s0, .ref s1] σ Q = ((ab_k s1 = 104 ∧ ab_in s0 (ab_n s1)) ∧ Ev d 97 17 [l0, l1] [.ref (ab_r s1 s0.toNatClampNeg)] σ Q) := ev_Hc (c := ab_k s1 = 104 ∧ ab_in s0 (ab_n s1)) d97_16 rfl rfl rfl rfl rfl rfl rfl rfl
theorem d97_17 : decode (ab_C 97) 17 = .ok (.aload_n 0, 1) := by decide +kernel
theorem e97_17 {d : Nat} {l1 : Option Value} {x : Nat} {s0 : Nat} {σ : ab_St} {Q : Option Value → ab_St → Prop} : Ev d 97 17 [some (.ref x), l1] [.ref s0] σ Q = Ev d 97 18 [some (.ref x), l1] [.ref x, .ref s0] σ Q := ev_A1 d97_17 rfl
theorem d97_18 : decode (ab_C 97) 18 = .ok (.getfield 33, 3) := by decide +kernel
theorem e97_18 {d : Nat} {l0 l1 : Option Value} {s0 : Nat} {s1 : Nat} {σ : ab_St} {Q : Option Value → ab_St → Prop} : Ev d 97 18 [l0, l1] [.ref s0, .ref s1] σ Q = (ab_k s0 = 0 ∧ Ev d 97 21 [l0, l1] [.ref (ab_r s0 3), .ref s1] σ Q) := ev_Hc (c := ab_k s0 = 0) d97_18 rfl rfl rfl rfl rfl rfl rfl rfl
theorem d97_21 : decode (ab_C 97) 21 = .ok (.invokevirtual 92, 3) := by decide +kernel
theorem e97_21 {d : Nat} {l0 l1 : Option Value} {s0 : Nat} {s1 : Nat} {σ : ab_St} {Q : Option Value → ab_St → Prop} : Ev (d + 1) 97 21 [l0, l1] [.ref s0, .ref s1] σ Q = (ab_k s1 = 4 ∧ Ev d 35 0 [some (.ref s1), some (.ref s0)] [] σ (fun r σ2 => Ev (d + 1) 97 24 [l0, l1] (r.toList ++ []) σ2 Q)) := ev_KV (b := s1) (ls := [l0, l1]) (st := [.ref s0, .ref s1]) (as := [.ref s0]) (rest := []) d97_21 rfl rfl rfl (Nat.le_of_ble_eq_true rfl) (Nat.le_of_ble_eq_true rfl) (Nat.le_of_ble_eq_true rfl) rfl rfl rfl rfl rfl rfl rfl
theorem d97_24 : decode (ab_C 97) 24 = .ok (.aload_n 0, 1) := by decide +kernel
theorem e97_24 {d : Nat} {l1 : Option Value} {x : Nat} {σ : ab_St} {Q : Option Value → ab_St → Prop} : Ev d 97 24 [some (.ref x), l1] [] σ Q = Ev d 97 25 [some (.ref x), l1] [.ref x] σ Q := ev_A1 d97_24 rfl
theorem d97_25 : decode (ab_C 97) 25 = .ok (.dup, 1) := by decide +kernel
theorem e97_25 {d : Nat} {l0 l1 : Option Value} {s0 : Nat} {σ : ab_St} {Q : Option Value → ab_St → Prop} : Ev d 97 25 [l0, l1] [.ref s0] σ Q = Ev d 97 26 [l0, l1] [.ref s0, .ref s0] σ Q := ev_A1 d97_25 rfl
theorem d97_26 : decode (ab_C 97) 26 = .ok (.getfield 98, 3) := by decide +kernel
theorem e97_26 {d : Nat} {l0 l1 : Option Value} {s0 : Nat} {s1 : Nat} {σ : ab_St} {Q : Option Value → ab_St → Prop} : Ev d 97 26 [l0, l1] [.ref s0, .ref s1] σ Q = (ab_k s0 = 0 ∧ Ev d 97 29 [l0, l1] [.int (σ.1 s0 10), .ref s1] σ Q) := ev_Hc (c := ab_k s0 = 0) d97_26 rfl rfl rfl rfl rfl rfl rfl rfl
theorem d97_29 : decode (ab_C 97) 29 = .ok (.iconst 1, 1) := by decide +kernel
theorem e97_29 {d : Nat} {l0 l1 : Option Value} {s0 : Int32} {s1 : Nat} {σ : ab_St} {Q : Option Value → ab_St → Prop} : Ev d 97 29 [l0, l1] [.int s0, .ref s1] σ Q = Ev d 97 30 [l0, l1] [.int 1, .int s0, .ref s1] σ Q := ev_A1 d97_29 rfl
theorem d97_30 : decode (ab_C 97) 30 = .ok (.iload_n 1, 1) := by decide +kernel
theorem e97_30 {d : Nat} {l0 : Option Value} {x : Int32} {s0 : Int32} {s1 : Int32} {s2 : Nat} {σ : ab_St} {Q : Option Value → ab_St → Prop} : Ev d 97 30 [l0, some (.int x)] [.int s0, .int s1, .ref s2] σ Q = Ev d 97 31 [l0, some (.int x)] [.int x, .int s0, .int s1, .ref s2] σ Q := ev_A1 d97_30 rfl
theorem d97_31 : decode (ab_C 97) 31 = .ok (.ishl, 1) := by decide +kernel
theorem e97_31 {d : Nat} {l0 l1 : Option Value} {s0 : Int32} {s1 : Int32} {s2 : Int32} {s3 : Nat} {σ : ab_St} {Q : Option Value → ab_St → Prop} : Ev d 97 31 [l0, l1] [.int s0, .int s1, .int s2, .ref s3] σ Q = Ev d 97 32 [l0, l1] [.int (s1 <<< (s0 &&& 31)), .int s2, .ref s3] σ Q := ev_A2 d97_31 rfl rfl
theorem d97_32 : decode (ab_C 97) 32 = .ok (.ior, 1) := by decide +kernel
theorem e97_32 {d : Nat} {l0 l1 : Option Value} {s0 : Int32} {s1 : Int32} {s2 : Nat} {σ : ab_St} {Q : Option Value → ab_St → Prop} : Ev d 97 32 [l0, l1] [.int s0, .int s1, .ref s2] σ Q = Ev d 97 33 [l0, l1] [.int (s1 ||| s0), .ref s2] σ Q := ev_A2 d97_32 rfl rfl
theorem d97_33 : decode (ab_C 97) 33 = .ok (.putfield 98, 3) := by decide +kernel
theorem e97_33 {d : Nat} {l0 l1 : Option Value} {s0 : Int32} {s1 : Nat} {σ : ab_St} {Q : Option Value → ab_St → Prop} : Ev d 97 33 [l0, l1] [.int s0, .ref s1] σ Q = (ab_k s1 = 0 ∧ Ev d 97 36 [l0, l1] [] (ab_wI σ s1 (upd (σ.1 s1) 10 s0)) Q) := ev_Hc (c := ab_k s1 = 0) d97_33 rfl rfl rfl rfl rfl rfl rfl rfl
theorem d97_36 : decode (ab_C 97) 36 = .ok (.aload_n 0, 1) := by decide +kernel
theorem e97_36 {d : Nat} {l1 : Option Value} {x : Nat} {σ : ab_St} {Q : Option Value → ab_St → Prop} : Ev d 97 36 [some (.ref x), l1] [] σ Q = Ev d 97 37 [some (.ref x), l1] [.ref x] σ Q := ev_A1 d97_36 rfl
theorem d97_37 : decode (ab_C 97) 37 = .ok (.getfield 33, 3) := by decide +kernel
theorem e97_37 {d : Nat} {l0 l1 : Option Value} {s0 : Nat} {σ : ab_St} {Q : Option Value → ab_St → Prop} : Ev d 97 37 [l0, l1] [.ref s0] σ Q = (ab_k s0 = 0 ∧ Ev d 97 40 [l0, l1] [.ref (ab_r s0 3)] σ Q) := ev_Hc (c := ab_k s0 = 0) d97_37 rfl rfl rfl rfl rfl rfl rfl rfl
theorem d97_40 : decode (ab_C 97) 40 = .ok (.invokevirtual 176, 3) := by decide +kernel
theorem e97_40 {d : Nat} {l0 l1 : Option Value} {s0 : Nat} {σ : ab_St} {Q : Option Value → ab_St → Prop} : Ev (d + 1) 97 40 [l0, l1] [.ref s0] σ Q = (ab_k s0 = 4 ∧ Ev d 53 0 [some (.ref s0)] [] σ (fun r σ2 => Ev (d + 1) 97 43 [l0, l1] (r.toList ++ []) σ2 Q)) := ev_KV (b := s0) (ls := [l0, l1]) (st := [.ref s0]) (as := []) (rest := []) d97_40 rfl rfl rfl (Nat.le_of_ble_eq_true rfl) (Nat.le_of_ble_eq_true rfl) (Nat.le_of_ble_eq_true rfl) rfl rfl rfl rfl rfl rfl rfl
theorem d97_43 : decode (ab_C 97) 43 = .ok (.ireturn, 1) := by decide +kernel
theorem e97_43 {d : Nat} {l0 l1 : Option Value} {s0 : Int32} {σ : ab_St} {Q : Option Value → ab_St → Prop} : Ev d 97 43 [l0, l1] [.int s0] σ Q = Q (some (.int s0)) σ := ev_E d97_43 rfl rfl rfl rfl rfl rfl rfl
/-! SaidLeast.again(I)I -/
theorem d98_0 : decode (ab_C 98) 0 = .ok (.iload_n 1, 1) := by decide +kernel
theorem e98_0 {d : Nat} {l0 : Option Value} {x : Int32} {σ : ab_St} {Q : Option Value → ab_St → Prop} : Ev d 98 0 [l0, some (.int x)] [] σ Q = Ev d 98 1 [l0, some (.int x)] [.int x] σ Q := ev_A1 d98_0 rfl
theorem d98_1 : decode (ab_C 98) 1 = .ok (.ifCond .lt 8, 3) := by decide +kernel
theorem e98_1 {d : Nat} {l0 l1 : Option Value} {s0 : Int32} {σ : ab_St} {Q : Option Value → ab_St → Prop} : Ev d 98 1 [l0, l1] [.int s0] σ Q = if s0 < 0 then Ev d 98 9 [l0, l1] [] σ Q else Ev d 98 4 [l0, l1] [] σ Q := ev_B (c := s0 < 0) d98_1 rfl rfl rfl rfl rfl
theorem d98_4 : decode (ab_C 98) 4 = .ok (.iload_n 1, 1) := by decide +kernel
theorem e98_4 {d : Nat} {l0 : Option Value} {x : Int32} {σ : ab_St} {Q : Option Value → ab_St → Prop} : Ev d 98 4 [l0, some (.int x)] [] σ Q = Ev d 98 5 [l0, some (.int x)] [.int x] σ Q := ev_A1 d98_4 rfl
theorem d98_5 : decode (ab_C 98) 5 = .ok (.iconst 2, 1) := by decide +kernel
theorem e98_5 {d : Nat} {l0 l1 : Option Value} {s0 : Int32} {σ : ab_St} {Q : Option Value → ab_St → Prop} : Ev d 98 5 [l0, l1] [.int s0] σ Q = Ev d 98 6 [l0, l1] [.int 2, .int s0] σ Q := ev_A1 d98_5 rfl
theorem d98_6 : decode (ab_C 98) 6 = .ok (.if_icmp .lt 5, 3) := by decide +kernel
theorem e98_6 {d : Nat} {l0 l1 : Option Value} {s0 : Int32} {s1 : Int32} {σ : ab_St} {Q : Option Value → ab_St → Prop} : Ev d 98 6 [l0, l1] [.int s0, .int s1] σ Q = if s1 < s0 then Ev d 98 11 [l0, l1] [] σ Q else Ev d 98 9 [l0, l1] [] σ Q := ev_B (c := s1 < s0) d98_6 rfl rfl rfl rfl rfl
theorem d98_9 : decode (ab_C 98) 9 = .ok (.iconst (-1), 1) := by decide +kernel
theorem e98_9 {d : Nat} {l0 l1 : Option Value} {σ : ab_St} {Q : Option Value → ab_St → Prop} : Ev d 98 9 [l0, l1] [] σ Q = Ev d 98 10 [l0, l1] [.int (-1)] σ Q := ev_A1 d98_9 rfl
theorem d98_10 : decode (ab_C 98) 10 = .ok (.ireturn, 1) := by decide +kernel
theorem e98_10 {d : Nat} {l0 l1 : Option Value} {s0 : Int32} {σ : ab_St} {Q : Option Value → ab_St → Prop} : Ev d 98 10 [l0, l1] [.int s0] σ Q = Q (some (.int s0)) σ := ev_E d98_10 rfl rfl rfl rfl rfl rfl rfl
theorem d98_11 : decode (ab_C 98) 11 = .ok (.aload_n 0, 1) := by decide +kernel
theorem e98_11 {d : Nat} {l1 : Option Value} {x : Nat} {σ : ab_St} {Q : Option Value → ab_St → Prop} : Ev d 98 11 [some (.ref x), l1] [] σ Q = Ev d 98 12 [some (.ref x), l1] [.ref x] σ Q := ev_A1 d98_11 rfl
theorem d98_12 : decode (ab_C 98) 12 = .ok (.getfield 98, 3) := by decide +kernel
theorem e98_12 {d : Nat} {l0 l1 : Option Value} {s0 : Nat} {σ : ab_St} {Q : Option Value → ab_St → Prop} : Ev d 98 12 [l0, l1] [.ref s0] σ Q = (ab_k s0 = 0 ∧ Ev d 98 15 [l0, l1] [.int (σ.1 s0 10)] σ Q) := ev_Hc (c := ab_k s0 = 0) d98_12 rfl rfl rfl rfl rfl rfl rfl rfl
theorem d98_15 : decode (ab_C 98) 15 = .ok (.iload_n 1, 1) := by decide +kernel
theorem e98_15 {d : Nat} {l0 : Option Value} {x : Int32} {s0 : Int32} {σ : ab_St} {Q : Option Value → ab_St → Prop} : Ev d 98 15 [l0, some (.int x)] [.int s0] σ Q = Ev d 98 16 [l0, some (.int x)] [.int x, .int s0] σ Q := ev_A1 d98_15 rfl
theorem d98_16 : decode (ab_C 98) 16 = .ok (.invokestatic 141, 3) := by decide +kernel
theorem e98_16 {d : Nat} {l0 l1 : Option Value} {s0 : Int32} {s1 : Int32} {σ : ab_St} {Q : Option Value → ab_St → Prop} : Ev (d + 1) 98 16 [l0, l1] [.int s0, .int s1] σ Q = Ev d 32 0 [some (.int s1), some (.int s0)] [] σ (fun r σ2 => Ev (d + 1) 98 19 [l0, l1] (r.toList ++ []) σ2 Q) := ev_K0 (y := 32) (ls := [l0, l1]) (st := [.int s0, .int s1]) (as := [.int s1, .int s0]) (rest := []) d98_16 rfl rfl rfl rfl rfl rfl rfl rfl
theorem d98_19 : decode (ab_C 98) 19 = .ok (.ifCond .ne 6, 3) := by decide +kernel
theorem e98_19 {d : Nat} {l0 l1 : Option Value} {s0 : Int32} {σ : ab_St} {Q : Option Value → ab_St → Prop} : Ev d 98 19 [l0, l1] [.int s0] σ Q = if s0 = 0 then Ev d 98 22 [l0, l1] [] σ Q else Ev d 98 25 [l0, l1] [] σ Q := ev_B (c := s0 = 0) d98_19 rfl rfl rfl rfl rfl
theorem d98_22 : decode (ab_C 98) 22 = .ok (.bipush (-3), 2) := by decide +kernel
theorem e98_22 {d : Nat} {l0 l1 : Option Value} {σ : ab_St} {Q : Option Value → ab_St → Prop} : Ev d 98 22 [l0, l1] [] σ Q = Ev d 98 24 [l0, l1] [.int (-3)] σ Q := ev_A1 d98_22 rfl
theorem d98_24 : decode (ab_C 98) 24 = .ok (.ireturn, 1) := by decide +kernel
theorem e98_24 {d : Nat} {l0 l1 : Option Value} {s0 : Int32} {σ : ab_St} {Q : Option Value → ab_St → Prop} : Ev d 98 24 [l0, l1] [.int s0] σ Q = Q (some (.int s0)) σ := ev_E d98_24 rfl rfl rfl rfl rfl rfl rfl
theorem d98_25 : decode (ab_C 98) 25 = .ok (.aload_n 0, 1) := by decide +kernel
theorem e98_25 {d : Nat} {l1 : Option Value} {x : Nat} {σ : ab_St} {Q : Option Value → ab_St → Prop} : Ev d 98 25 [some (.ref x), l1] [] σ Q = Ev d 98 26 [some (.ref x), l1] [.ref x] σ Q := ev_A1 d98_25 rfl
theorem d98_26 : decode (ab_C 98) 26 = .ok (.getfield 33, 3) := by decide +kernel
theorem e98_26 {d : Nat} {l0 l1 : Option Value} {s0 : Nat} {σ : ab_St} {Q : Option Value → ab_St → Prop} : Ev d 98 26 [l0, l1] [.ref s0] σ Q = (ab_k s0 = 0 ∧ Ev d 98 29 [l0, l1] [.ref (ab_r s0 3)] σ Q) := ev_Hc (c := ab_k s0 = 0) d98_26 rfl rfl rfl rfl rfl rfl rfl rfl
theorem d98_29 : decode (ab_C 98) 29 = .ok (.aload_n 0, 1) := by decide +kernel
theorem e98_29 {d : Nat} {l1 : Option Value} {x : Nat} {s0 : Nat} {σ : ab_St} {Q : Option Value → ab_St → Prop} : Ev d 98 29 [some (.ref x), l1] [.ref s0] σ Q = Ev d 98 30 [some (.ref x), l1] [.ref x, .ref s0] σ Q := ev_A1 d98_29 rfl
theorem d98_30 : decode (ab_C 98) 30 = .ok (.getfield 47, 3) := by decide +kernel
theorem e98_30 {d : Nat} {l0 l1 : Option Value} {s0 : Nat} {s1 : Nat} {σ : ab_St} {Q : Option Value → ab_St → Prop} : Ev d 98 30 [l0, l1] [.ref s0, .ref s1] σ Q = (ab_k s0 = 0 ∧ Ev d 98 33 [l0, l1] [.ref (ab_r s0 6), .ref s1] σ Q) := ev_Hc (c := ab_k s0 = 0) d98_30 rfl rfl rfl rfl rfl rfl rfl rfl
theorem d98_33 : decode (ab_C 98) 33 = .ok (.iload_n 1, 1) := by decide +kernel
theorem e98_33 {d : Nat} {l0 : Option Value} {x : Int32} {s0 : Nat} {s1 : Nat} {σ : ab_St} {Q : Option Value → ab_St → Prop} : Ev d 98 33 [l0, some (.int x)] [.ref s0, .ref s1] σ Q = Ev d 98 34 [l0, some (.int x)] [.int x, .ref s0, .ref s1] σ Q := ev_A1 d98_33 rfl
theorem d98_34 : decode (ab_C 98) 34 = .ok (.aaload, 1) := by decide +kernel
theorem e98_34 {d : Nat} {l0 l1 : Option Value} {s0 : Int32} {s1 : Nat} {s2 : Nat} {σ : ab_St} {Q : Option Value → ab_St → Prop} : Ev d 98 34 [l0, l1] [.int s0, .ref s1, .ref s2] σ Q = ((ab_k s1 = 104 ∧ ab_in s0 (ab_n s1)) ∧ Ev d 98 35 [l0, l1] [.ref (ab_r s1 s0.toNatClampNeg), .ref s2] σ Q) := ev_Hc (c := ab_k s1 = 104 ∧ ab_in s0 (ab_n s1)) d98_34 rfl rfl rfl rfl rfl rfl rfl rfl
theorem d98_35 : decode (ab_C 98) 35 = .ok (.invokevirtual 92, 3) := by decide +kernel
theorem e98_35 {d : Nat} {l0 l1 : Option Value} {s0 : Nat} {s1 : Nat} {σ : ab_St} {Q : Option Value → ab_St → Prop} : Ev (d + 1) 98 35 [l0, l1] [.ref s0, .ref s1] σ Q = (ab_k s1 = 4 ∧ Ev d 35 0 [some (.ref s1), some (.ref s0)] [] σ (fun r σ2 => Ev (d + 1) 98 38 [l0, l1] (r.toList ++ []) σ2 Q)) := ev_KV (b := s1) (ls := [l0, l1]) (st := [.ref s0, .ref s1]) (as := [.ref s0]) (rest := []) d98_35 rfl rfl rfl (Nat.le_of_ble_eq_true rfl) (Nat.le_of_ble_eq_true rfl) (Nat.le_of_ble_eq_true rfl) rfl rfl rfl rfl rfl rfl rfl
theorem d98_38 : decode (ab_C 98) 38 = .ok (.aload_n 0, 1) := by decide +kernel
theorem e98_38 {d : Nat} {l1 : Option Value} {x : Nat} {σ : ab_St} {Q : Option Value → ab_St → Prop} : Ev d 98 38 [some (.ref x), l1] [] σ Q = Ev d 98 39 [some (.ref x), l1] [.ref x] σ Q := ev_A1 d98_38 rfl
theorem d98_39 : decode (ab_C 98) 39 = .ok (.getfield 43, 3) := by decide +kernel
theorem e98_39 {d : Nat} {l0 l1 : Option Value} {s0 : Nat} {σ : ab_St} {Q : Option Value → ab_St → Prop} : Ev d 98 39 [l0, l1] [.ref s0] σ Q = (ab_k s0 = 0 ∧ Ev d 98 42 [l0, l1] [.ref (ab_r s0 5)] σ Q) := ev_Hc (c := ab_k s0 = 0) d98_39 rfl rfl rfl rfl rfl rfl rfl rfl
theorem d98_42 : decode (ab_C 98) 42 = .ok (.invokevirtual 95, 3) := by decide +kernel
theorem e98_42 {d : Nat} {l0 l1 : Option Value} {s0 : Nat} {σ : ab_St} {Q : Option Value → ab_St → Prop} : Ev (d + 1) 98 42 [l0, l1] [.ref s0] σ Q = (ab_k s0 = 5 ∧ Ev d 36 0 [some (.ref s0)] [] σ (fun r σ2 => Ev (d + 1) 98 45 [l0, l1] (r.toList ++ []) σ2 Q)) := ev_KV (b := s0) (ls := [l0, l1]) (st := [.ref s0]) (as := []) (rest := []) d98_42 rfl rfl rfl (Nat.le_of_ble_eq_true rfl) (Nat.le_of_ble_eq_true rfl) (Nat.le_of_ble_eq_true rfl) rfl rfl rfl rfl rfl rfl rfl
theorem d98_45 : decode (ab_C 98) 45 = .ok (.aload_n 0, 1) := by decide +kernel
theorem e98_45 {d : Nat} {l1 : Option Value} {x : Nat} {σ : ab_St} {Q : Option Value → ab_St → Prop} : Ev d 98 45 [some (.ref x), l1] [] σ Q = Ev d 98 46 [some (.ref x), l1] [.ref x] σ Q := ev_A1 d98_45 rfl
theorem d98_46 : decode (ab_C 98) 46 = .ok (.getfield 33, 3) := by decide +kernel
theorem e98_46 {d : Nat} {l0 l1 : Option Value} {s0 : Nat} {σ : ab_St} {Q : Option Value → ab_St → Prop} : Ev d 98 46 [l0, l1] [.ref s0] σ Q = (ab_k s0 = 0 ∧ Ev d 98 49 [l0, l1] [.ref (ab_r s0 3)] σ Q) := ev_Hc (c := ab_k s0 = 0) d98_46 rfl rfl rfl rfl rfl rfl rfl rfl
theorem d98_49 : decode (ab_C 98) 49 = .ok (.invokevirtual 176, 3) := by decide +kernel
theorem e98_49 {d : Nat} {l0 l1 : Option Value} {s0 : Nat} {σ : ab_St} {Q : Option Value → ab_St → Prop} : Ev (d + 1) 98 49 [l0, l1] [.ref s0] σ Q = (ab_k s0 = 4 ∧ Ev d 53 0 [some (.ref s0)] [] σ (fun r σ2 => Ev (d + 1) 98 52 [l0, l1] (r.toList ++ []) σ2 Q)) := ev_KV (b := s0) (ls := [l0, l1]) (st := [.ref s0]) (as := []) (rest := []) d98_49 rfl rfl rfl (Nat.le_of_ble_eq_true rfl) (Nat.le_of_ble_eq_true rfl) (Nat.le_of_ble_eq_true rfl) rfl rfl rfl rfl rfl rfl rfl
theorem d98_52 : decode (ab_C 98) 52 = .ok (.ireturn, 1) := by decide +kernel
theorem e98_52 {d : Nat} {l0 l1 : Option Value} {s0 : Int32} {σ : ab_St} {Q : Option Value → ab_St → Prop} : Ev d 98 52 [l0, l1] [.int s0] σ Q = Q (some (.int s0)) σ := ev_E d98_52 rfl rfl rfl rfl rfl rfl rfl
/-! SaidLeastModel.write(IJ)I -/
theorem d100_0 : decode (ab_C 100) 0 = .ok (.aload_n 0, 1) := by decide +kernel
theorem e100_0 {d : Nat} {l1 l2 l3 l4 : Option Value} {x : Nat} {σ : ab_St} {Q : Option Value → ab_St → Prop} : Ev d 100 0 [some (.ref x), l1, l2, l3, l4] [] σ Q = Ev d 100 1 [some (.ref x), l1, l2, l3, l4] [.ref x] σ Q := ev_A1 d100_0 rfl
theorem d100_1 : decode (ab_C 100) 1 = .ok (.iconst 0, 1) := by decide +kernel
theorem e100_1 {d : Nat} {l0 l1 l2 l3 l4 : Option Value} {s0 : Nat} {σ : ab_St} {Q : Option Value → ab_St → Prop} : Ev d 100 1 [l0, l1, l2, l3, l4] [.ref s0] σ Q = Ev d 100 2 [l0, l1, l2, l3, l4] [.int 0, .ref s0] σ Q := ev_A1 d100_1 rfl
theorem d100_2 : decode (ab_C 100) 2 = .ok (.putfield 79, 3) := by decide +kernel
theorem e100_2 {d : Nat} {l0 l1 l2 l3 l4 : Option Value} {s0 : Int32} {s1 : Nat} {σ : ab_St} {Q : Option Value → ab_St → Prop} : Ev d 100 2 [l0, l1, l2, l3, l4] [.int s0, .ref s1] σ Q = (ab_k s1 = 10 ∧ Ev d 100 5 [l0, l1, l2, l3, l4] [] (ab_wI σ s1 (upd (σ.1 s1) 0 s0)) Q) := ev_Hc (c := ab_k s1 = 10) d100_2 rfl rfl rfl rfl rfl rfl rfl rfl
theorem d100_5 : decode (ab_C 100) 5 = .ok (.iload_n 1, 1) := by decide +kernel
theorem e100_5 {d : Nat} {l0 l2 l3 l4 : Option Value} {x : Int32} {σ : ab_St} {Q : Option Value → ab_St → Prop} : Ev d 100 5 [l0, some (.int x), l2, l3, l4] [] σ Q = Ev d 100 6 [l0, some (.int x), l2, l3, l4] [.int x] σ Q := ev_A1 d100_5 rfl
theorem d100_6 : decode (ab_C 100) 6 = .ok (.i2l, 1) := by decide +kernel
theorem e100_6 {d : Nat} {l0 l1 l2 l3 l4 : Option Value} {s0 : Int32} {σ : ab_St} {Q : Option Value → ab_St → Prop} : Ev d 100 6 [l0, l1, l2, l3, l4] [.int s0] σ Q = Ev d 100 7 [l0, l1, l2, l3, l4] [.long s0.toInt64] σ Q := ev_A2 d100_6 rfl rfl
theorem d100_7 : decode (ab_C 100) 7 = .ok (.lconst 1, 1) := by decide +kernel
theorem e100_7 {d : Nat} {l0 l1 l2 l3 l4 : Option Value} {s0 : Int64} {σ : ab_St} {Q : Option Value → ab_St → Prop} : Ev d 100 7 [l0, l1, l2, l3, l4] [.long s0] σ Q = Ev d 100 8 [l0, l1, l2, l3, l4] [.long 1, .long s0] σ Q := ev_A1 d100_7 rfl
theorem d100_8 : decode (ab_C 100) 8 = .ok (.ldc2_w 92, 3) := by decide +kernel
theorem e100_8 {d : Nat} {l0 l1 l2 l3 l4 : Option Value} {s0 : Int64} {s1 : Int64} {σ : ab_St} {Q : Option Value → ab_St → Prop} : Ev d 100 8 [l0, l1, l2, l3, l4] [.long s0, .long s1] σ Q = Ev d 100 11 [l0, l1, l2, l3, l4] [.long 8, .long s0, .long s1] σ Q := ev_A1 d100_8 rfl
theorem d100_11 : decode (ab_C 100) 11 = .ok (.invokestatic 85, 3) := by decide +kernel
theorem e100_11 {d : Nat} {l0 l1 l2 l3 l4 : Option Value} {s0 : Int64} {s1 : Int64} {s2 : Int64} {σ : ab_St} {Q : Option Value → ab_St → Prop} : Ev (d + 1) 100 11 [l0, l1, l2, l3, l4] [.long s0, .long s1, .long s2] σ Q = Ev d 101 0 [some (.long s2), none, some (.long s1), none, some (.long s0), none] [] σ (fun r σ2 => Ev (d + 1) 100 14 [l0, l1, l2, l3, l4] (r.toList ++ []) σ2 Q) := ev_K0 (y := 101) (ls := [l0, l1, l2, l3, l4]) (st := [.long s0, .long s1, .long s2]) (as := [.long s2, .long s1, .long s0]) (rest := []) d100_11 rfl rfl rfl rfl rfl rfl rfl rfl
theorem d100_14 : decode (ab_C 100) 14 = .ok (.ifCond .ne 6, 3) := by decide +kernel
theorem e100_14 {d : Nat} {l0 l1 l2 l3 l4 : Option Value} {s0 : Int32} {σ : ab_St} {Q : Option Value → ab_St → Prop} : Ev d 100 14 [l0, l1, l2, l3, l4] [.int s0] σ Q = if s0 = 0 then Ev d 100 17 [l0, l1, l2, l3, l4] [] σ Q else Ev d 100 20 [l0, l1, l2, l3, l4] [] σ Q := ev_B (c := s0 = 0) d100_14 rfl rfl rfl rfl rfl
theorem d100_17 : decode (ab_C 100) 17 = .ok (.bipush (-2), 2) := by decide +kernel
theorem e100_17 {d : Nat} {l0 l1 l2 l3 l4 : Option Value} {σ : ab_St} {Q : Option Value → ab_St → Prop} : Ev d 100 17 [l0, l1, l2, l3, l4] [] σ Q = Ev d 100 19 [l0, l1, l2, l3, l4] [.int (-2)] σ Q := ev_A1 d100_17 rfl
theorem d100_19 : decode (ab_C 100) 19 = .ok (.ireturn, 1) := by decide +kernel
theorem e100_19 {d : Nat} {l0 l1 l2 l3 l4 : Option Value} {s0 : Int32} {σ : ab_St} {Q : Option Value → ab_St → Prop} : Ev d 100 19 [l0, l1, l2, l3, l4] [.int s0] σ Q = Q (some (.int s0)) σ := ev_E d100_19 rfl rfl rfl rfl rfl rfl rfl
theorem d100_20 : decode (ab_C 100) 20 = .ok (.aload_n 0, 1) := by decide +kernel
theorem e100_20 {d : Nat} {l1 l2 l3 l4 : Option Value} {x : Nat} {σ : ab_St} {Q : Option Value → ab_St → Prop} : Ev d 100 20 [some (.ref x), l1, l2, l3, l4] [] σ Q = Ev d 100 21 [some (.ref x), l1, l2, l3, l4] [.ref x] σ Q := ev_A1 d100_20 rfl
theorem d100_21 : decode (ab_C 100) 21 = .ok (.getfield 94, 3) := by decide +kernel
theorem e100_21 {d : Nat} {l0 l1 l2 l3 l4 : Option Value} {s0 : Nat} {σ : ab_St} {Q : Option Value → ab_St → Prop} : Ev d 100 21 [l0, l1, l2, l3, l4] [.ref s0] σ Q = (ab_k s0 = 10 ∧ Ev d 100 24 [l0, l1, l2, l3, l4] [.int (σ.1 s0 2)] σ Q) := ev_Hc (c := ab_k s0 = 10) d100_21 rfl rfl rfl rfl rfl rfl rfl rfl
theorem d100_24 : decode (ab_C 100) 24 = .ok (.iload_n 1, 1) := by decide +kernel
theorem e100_24 {d : Nat} {l0 l2 l3 l4 : Option Value} {x : Int32} {s0 : Int32} {σ : ab_St} {Q : Option Value → ab_St → Prop} : Ev d 100 24 [l0, some (.int x), l2, l3, l4] [.int s0] σ Q = Ev d 100 25 [l0, some (.int x), l2, l3, l4] [.int x, .int s0] σ Q := ev_A1 d100_24 rfl
theorem d100_25 : decode (ab_C 100) 25 = .ok (.iadd, 1) := by decide +kernel
theorem e100_25 {d : Nat} {l0 l1 l2 l3 l4 : Option Value} {s0 : Int32} {s1 : Int32} {σ : ab_St} {Q : Option Value → ab_St → Prop} : Ev d 100 25 [l0, l1, l2, l3, l4] [.int s0, .int s1] σ Q = Ev d 100 26 [l0, l1, l2, l3, l4] [.int (s1 + s0)] σ Q := ev_A2 d100_25 rfl rfl
theorem d100_26 : decode (ab_C 100) 26 = .ok (.bipush 64, 2) := by decide +kernel
theorem e100_26 {d : Nat} {l0 l1 l2 l3 l4 : Option Value} {s0 : Int32} {σ : ab_St} {Q : Option Value → ab_St → Prop} : Ev d 100 26 [l0, l1, l2, l3, l4] [.int s0] σ Q = Ev d 100 28 [l0, l1, l2, l3, l4] [.int 64, .int s0] σ Q := ev_A1 d100_26 rfl
theorem d100_28 : decode (ab_C 100) 28 = .ok (.if_icmp .le 6, 3) := by decide +kernel
theorem e100_28 {d : Nat} {l0 l1 l2 l3 l4 : Option Value} {s0 : Int32} {s1 : Int32} {σ : ab_St} {Q : Option Value → ab_St → Prop} : Ev d 100 28 [l0, l1, l2, l3, l4] [.int s0, .int s1] σ Q = if s1 ≤ s0 then Ev d 100 34 [l0, l1, l2, l3, l4] [] σ Q else Ev d 100 31 [l0, l1, l2, l3, l4] [] σ Q := ev_B (c := s1 ≤ s0) d100_28 rfl rfl rfl rfl rfl
theorem d100_31 : decode (ab_C 100) 31 = .ok (.bipush (-4), 2) := by decide +kernel
theorem e100_31 {d : Nat} {l0 l1 l2 l3 l4 : Option Value} {σ : ab_St} {Q : Option Value → ab_St → Prop} : Ev d 100 31 [l0, l1, l2, l3, l4] [] σ Q = Ev d 100 33 [l0, l1, l2, l3, l4] [.int (-4)] σ Q := ev_A1 d100_31 rfl
theorem d100_33 : decode (ab_C 100) 33 = .ok (.ireturn, 1) := by decide +kernel
theorem e100_33 {d : Nat} {l0 l1 l2 l3 l4 : Option Value} {s0 : Int32} {σ : ab_St} {Q : Option Value → ab_St → Prop} : Ev d 100 33 [l0, l1, l2, l3, l4] [.int s0] σ Q = Q (some (.int s0)) σ := ev_E d100_33 rfl rfl rfl rfl rfl rfl rfl
theorem d100_34 : decode (ab_C 100) 34 = .ok (.iload_n 1, 1) := by decide +kernel
theorem e100_34 {d : Nat} {l0 l2 l3 l4 : Option Value} {x : Int32} {σ : ab_St} {Q : Option Value → ab_St → Prop} : Ev d 100 34 [l0, some (.int x), l2, l3, l4] [] σ Q = Ev d 100 35 [l0, some (.int x), l2, l3, l4] [.int x] σ Q := ev_A1 d100_34 rfl
theorem d100_35 : decode (ab_C 100) 35 = .ok (.iconst 1, 1) := by decide +kernel
theorem e100_35 {d : Nat} {l0 l1 l2 l3 l4 : Option Value} {s0 : Int32} {σ : ab_St} {Q : Option Value → ab_St → Prop} : Ev d 100 35 [l0, l1, l2, l3, l4] [.int s0] σ Q = Ev d 100 36 [l0, l1, l2, l3, l4] [.int 1, .int s0] σ Q := ev_A1 d100_35 rfl
theorem d100_36 : decode (ab_C 100) 36 = .ok (.isub, 1) := by decide +kernel
theorem e100_36 {d : Nat} {l0 l1 l2 l3 l4 : Option Value} {s0 : Int32} {s1 : Int32} {σ : ab_St} {Q : Option Value → ab_St → Prop} : Ev d 100 36 [l0, l1, l2, l3, l4] [.int s0, .int s1] σ Q = Ev d 100 37 [l0, l1, l2, l3, l4] [.int (s1 - s0)] σ Q := ev_A2 d100_36 rfl rfl
theorem d100_37 : decode (ab_C 100) 37 = .ok (.istore 4, 2) := by decide +kernel
theorem e100_37 {d : Nat} {l0 l1 l2 l3 l4 : Option Value} {s0 : Int32} {σ : ab_St} {Q : Option Value → ab_St → Prop} : Ev d 100 37 [l0, l1, l2, l3, l4] [.int s0] σ Q = Ev d 100 39 [l0, l1, l2, l3, some (.int s0)] [] σ Q := ev_S d100_37 rfl rfl rfl rfl
theorem d100_39 : decode (ab_C 100) 39 = .ok (.iload 4, 2) := by decide +kernel
theorem e100_39 {d : Nat} {l0 l1 l2 l3 : Option Value} {x : Int32} {σ : ab_St} {Q : Option Value → ab_St → Prop} : Ev d 100 39 [l0, l1, l2, l3, some (.int x)] [] σ Q = Ev d 100 41 [l0, l1, l2, l3, some (.int x)] [.int x] σ Q := ev_A1 d100_39 rfl
theorem d100_41 : decode (ab_C 100) 41 = .ok (.ifCond .lt 40, 3) := by decide +kernel
theorem e100_41 {d : Nat} {l0 l1 l2 l3 l4 : Option Value} {s0 : Int32} {σ : ab_St} {Q : Option Value → ab_St → Prop} : Ev d 100 41 [l0, l1, l2, l3, l4] [.int s0] σ Q = if s0 < 0 then Ev d 100 81 [l0, l1, l2, l3, l4] [] σ Q else Ev d 100 44 [l0, l1, l2, l3, l4] [] σ Q := ev_B (c := s0 < 0) d100_41 rfl rfl rfl rfl rfl
theorem d100_44 : decode (ab_C 100) 44 = .ok (.aload_n 0, 1) := by decide +kernel
theorem e100_44 {d : Nat} {l1 l2 l3 l4 : Option Value} {x : Nat} {σ : ab_St} {Q : Option Value → ab_St → Prop} : Ev d 100 44 [some (.ref x), l1, l2, l3, l4] [] σ Q = Ev d 100 45 [some (.ref x), l1, l2, l3, l4] [.ref x] σ Q := ev_A1 d100_44 rfl
theorem d100_45 : decode (ab_C 100) 45 = .ok (.getfield 7, 3) := by decide +kernel
theorem e100_45 {d : Nat} {l0 l1 l2 l3 l4 : Option Value} {s0 : Nat} {σ : ab_St} {Q : Option Value → ab_St → Prop} : Ev d 100 45 [l0, l1, l2, l3, l4] [.ref s0] σ Q = (ab_k s0 = 10 ∧ Ev d 100 48 [l0, l1, l2, l3, l4] [.ref (ab_r s0 1)] σ Q) := ev_Hc (c := ab_k s0 = 10) d100_45 rfl rfl rfl rfl rfl rfl rfl rfl
theorem d100_48 : decode (ab_C 100) 48 = .ok (.aload_n 0, 1) := by decide +kernel
theorem e100_48 {d : Nat} {l1 l2 l3 l4 : Option Value} {x : Nat} {s0 : Nat} {σ : ab_St} {Q : Option Value → ab_St → Prop} : Ev d 100 48 [some (.ref x), l1, l2, l3, l4] [.ref s0] σ Q = Ev d 100 49 [some (.ref x), l1, l2, l3, l4] [.ref x, .ref s0] σ Q := ev_A1 d100_48 rfl
theorem d100_49 : decode (ab_C 100) 49 = .ok (.getfield 94, 3) := by decide +kernel
theorem e100_49 {d : Nat} {l0 l1 l2 l3 l4 : Option Value} {s0 : Nat} {s1 : Nat} {σ : ab_St} {Q : Option Value → ab_St → Prop} : Ev d 100 49 [l0, l1, l2, l3, l4] [.ref s0, .ref s1] σ Q = (ab_k s0 = 10 ∧ Ev d 100 52 [l0, l1, l2, l3, l4] [.int (σ.1 s0 2), .ref s1] σ Q) := ev_Hc (c := ab_k s0 = 10) d100_49 rfl rfl rfl rfl rfl rfl rfl rfl
theorem d100_52 : decode (ab_C 100) 52 = .ok (.lload_n 2, 1) := by decide +kernel
theorem e100_52 {d : Nat} {l0 l1 l4 : Option Value} {x : Int64} {s0 : Int32} {s1 : Nat} {σ : ab_St} {Q : Option Value → ab_St → Prop} : Ev d 100 52 [l0, l1, some (.long x), none, l4] [.int s0, .ref s1] σ Q = Ev d 100 53 [l0, l1, some (.long x), none, l4] [.long x, .int s0, .ref s1] σ Q := ev_A1 d100_52 rfl
theorem d100_53 : decode (ab_C 100) 53 = .ok (.bipush 8, 2) := by decide +kernel
theorem e100_53 {d : Nat} {l0 l1 l2 l3 l4 : Option Value} {s0 : Int64} {s1 : Int32} {s2 : Nat} {σ : ab_St} {Q : Option Value → ab_St → Prop} : Ev d 100 53 [l0, l1, l2, l3, l4] [.long s0, .int s1, .ref s2] σ Q = Ev d 100 55 [l0, l1, l2, l3, l4] [.int 8, .long s0, .int s1, .ref s2] σ Q := ev_A1 d100_53 rfl
theorem d100_55 : decode (ab_C 100) 55 = .ok (.iload 4, 2) := by decide +kernel
theorem e100_55 {d : Nat} {l0 l1 l2 l3 : Option Value} {x : Int32} {s0 : Int32} {s1 : Int64} {s2 : Int32} {s3 : Nat} {σ : ab_St} {Q : Option Value → ab_St → Prop} : Ev d 100 55 [l0, l1, l2, l3, some (.int x)] [.int s0, .long s1, .int s2, .ref s3] σ Q = Ev d 100 57 [l0, l1, l2, l3, some (.int x)] [.int x, .int s0, .long s1, .int s2, .ref s3] σ Q := ev_A1 d100_55 rfl
theorem d100_57 : decode (ab_C 100) 57 = .ok (.imul, 1) := by decide +kernel
theorem e100_57 {d : Nat} {l0 l1 l2 l3 l4 : Option Value} {s0 : Int32} {s1 : Int32} {s2 : Int64} {s3 : Int32} {s4 : Nat} {σ : ab_St} {Q : Option Value → ab_St → Prop} : Ev d 100 57 [l0, l1, l2, l3, l4] [.int s0, .int s1, .long s2, .int s3, .ref s4] σ Q = Ev d 100 58 [l0, l1, l2, l3, l4] [.int (s1 * s0), .long s2, .int s3, .ref s4] σ Q := ev_A2 d100_57 rfl rfl
theorem d100_58 : decode (ab_C 100) 58 = .ok (.lshr, 1) := by decide +kernel
theorem e100_58 {d : Nat} {l0 l1 l2 l3 l4 : Option Value} {s0 : Int32} {s1 : Int64} {s2 : Int32} {s3 : Nat} {σ : ab_St} {Q : Option Value → ab_St → Prop} : Ev d 100 58 [l0, l1, l2, l3, l4] [.int s0, .long s1, .int s2, .ref s3] σ Q = Ev d 100 59 [l0, l1, l2, l3, l4] [.long (s1 >>> (s0.toInt64 &&& 63)), .int s2, .ref s3] σ Q := ev_A2 d100_58 rfl rfl
theorem d100_59 : decode (ab_C 100) 59 = .ok (.l2i, 1) := by decide +kernel
theorem e100_59 {d : Nat} {l0 l1 l2 l3 l4 : Option Value} {s0 : Int64} {s1 : Int32} {s2 : Nat} {σ : ab_St} {Q : Option Value → ab_St → Prop} : Ev d 100 59 [l0, l1, l2, l3, l4] [.long s0, .int s1, .ref s2] σ Q = Ev d 100 60 [l0, l1, l2, l3, l4] [.int s0.toInt32, .int s1, .ref s2] σ Q := ev_A2 d100_59 rfl rfl
theorem d100_60 : decode (ab_C 100) 60 = .ok (.sipush 255, 3) := by decide +kernel
theorem e100_60 {d : Nat} {l0 l1 l2 l3 l4 : Option Value} {s0 : Int32} {s1 : Int32} {s2 : Nat} {σ : ab_St} {Q : Option Value → ab_St → Prop} : Ev d 100 60 [l0, l1, l2, l3, l4] [.int s0, .int s1, .ref s2] σ Q = Ev d 100 63 [l0, l1, l2, l3, l4] [.int 255, .int s0, .int s1, .ref s2] σ Q := ev_A1 d100_60 rfl
theorem d100_63 : decode (ab_C 100) 63 = .ok (.iand, 1) := by decide +kernel
theorem e100_63 {d : Nat} {l0 l1 l2 l3 l4 : Option Value} {s0 : Int32} {s1 : Int32} {s2 : Int32} {s3 : Nat} {σ : ab_St} {Q : Option Value → ab_St → Prop} : Ev d 100 63 [l0, l1, l2, l3, l4] [.int s0, .int s1, .int s2, .ref s3] σ Q = Ev d 100 64 [l0, l1, l2, l3, l4] [.int (s1 &&& s0), .int s2, .ref s3] σ Q := ev_A2 d100_63 rfl rfl
theorem d100_64 : decode (ab_C 100) 64 = .ok (.iastore, 1) := by decide +kernel
theorem e100_64 {d : Nat} {l0 l1 l2 l3 l4 : Option Value} {s0 : Int32} {s1 : Int32} {s2 : Nat} {σ : ab_St} {Q : Option Value → ab_St → Prop} : Ev d 100 64 [l0, l1, l2, l3, l4] [.int s0, .int s1, .ref s2] σ Q = ((ab_k s2 = 100 ∧ ab_in s1 (ab_n s2)) ∧ Ev d 100 65 [l0, l1, l2, l3, l4] [] (ab_wI σ s2 (upd (σ.1 s2) s1.toNatClampNeg s0)) Q) := ev_Hc (c := ab_k s2 = 100 ∧ ab_in s1 (ab_n s2)) d100_64 rfl rfl rfl rfl rfl rfl rfl rfl
theorem d100_65 : decode (ab_C 100) 65 = .ok (.aload_n 0, 1) := by decide +kernel
theorem e100_65 {d : Nat} {l1 l2 l3 l4 : Option Value} {x : Nat} {σ : ab_St} {Q : Option Value → ab_St → Prop} : Ev d 100 65 [some (.ref x), l1, l2, l3, l4] [] σ Q = Ev d 100 66 [some (.ref x), l1, l2, l3, l4] [.ref x] σ Q := ev_A1 d100_65 rfl
theorem d100_66 : decode (ab_C 100) 66 = .ok (.dup, 1) := by decide +kernel
theorem e100_66 {d : Nat} {l0 l1 l2 l3 l4 : Option Value} {s0 : Nat} {σ : ab_St} {Q : Option Value → ab_St → Prop} : Ev d 100 66 [l0, l1, l2, l3, l4] [.ref s0] σ Q = Ev d 100 67 [l0, l1, l2, l3, l4] [.ref s0, .ref s0] σ Q := ev_A1 d100_66 rfl
theorem d100_67 : decode (ab_C 100) 67 = .ok (.getfield 94, 3) := by decide +kernel
theorem e100_67 {d : Nat} {l0 l1 l2 l3 l4 : Option Value} {s0 : Nat} {s1 : Nat} {σ : ab_St} {Q : Option Value → ab_St → Prop} : Ev d 100 67 [l0, l1, l2, l3, l4] [.ref s0, .ref s1] σ Q = (ab_k s0 = 10 ∧ Ev d 100 70 [l0, l1, l2, l3, l4] [.int (σ.1 s0 2), .ref s1] σ Q) := ev_Hc (c := ab_k s0 = 10) d100_67 rfl rfl rfl rfl rfl rfl rfl rfl
theorem d100_70 : decode (ab_C 100) 70 = .ok (.iconst 1, 1) := by decide +kernel
theorem e100_70 {d : Nat} {l0 l1 l2 l3 l4 : Option Value} {s0 : Int32} {s1 : Nat} {σ : ab_St} {Q : Option Value → ab_St → Prop} : Ev d 100 70 [l0, l1, l2, l3, l4] [.int s0, .ref s1] σ Q = Ev d 100 71 [l0, l1, l2, l3, l4] [.int 1, .int s0, .ref s1] σ Q := ev_A1 d100_70 rfl
theorem d100_71 : decode (ab_C 100) 71 = .ok (.iadd, 1) := by decide +kernel
theorem e100_71 {d : Nat} {l0 l1 l2 l3 l4 : Option Value} {s0 : Int32} {s1 : Int32} {s2 : Nat} {σ : ab_St} {Q : Option Value → ab_St → Prop} : Ev d 100 71 [l0, l1, l2, l3, l4] [.int s0, .int s1, .ref s2] σ Q = Ev d 100 72 [l0, l1, l2, l3, l4] [.int (s1 + s0), .ref s2] σ Q := ev_A2 d100_71 rfl rfl
theorem d100_72 : decode (ab_C 100) 72 = .ok (.putfield 94, 3) := by decide +kernel
theorem e100_72 {d : Nat} {l0 l1 l2 l3 l4 : Option Value} {s0 : Int32} {s1 : Nat} {σ : ab_St} {Q : Option Value → ab_St → Prop} : Ev d 100 72 [l0, l1, l2, l3, l4] [.int s0, .ref s1] σ Q = (ab_k s1 = 10 ∧ Ev d 100 75 [l0, l1, l2, l3, l4] [] (ab_wI σ s1 (upd (σ.1 s1) 2 s0)) Q) := ev_Hc (c := ab_k s1 = 10) d100_72 rfl rfl rfl rfl rfl rfl rfl rfl
theorem d100_75 : decode (ab_C 100) 75 = .ok (.iinc 4 (-1), 3) := by decide +kernel
theorem e100_75 {d : Nat} {l0 l1 l2 l3 : Option Value} {x : Int32} {σ : ab_St} {Q : Option Value → ab_St → Prop} : Ev d 100 75 [l0, l1, l2, l3, some (.int x)] [] σ Q = Ev d 100 78 [l0, l1, l2, l3, some (.int (x + (-1)))] [] σ Q := ev_S d100_75 rfl rfl rfl rfl
theorem d100_78 : decode (ab_C 100) 78 = .ok (.goto (-39), 3) := by decide +kernel
theorem e100_78 {d : Nat} {l0 l1 l2 l3 l4 : Option Value} {σ : ab_St} {Q : Option Value → ab_St → Prop} : Ev d 100 78 [l0, l1, l2, l3, l4] [] σ Q = Ev d 100 39 [l0, l1, l2, l3, l4] [] σ Q := ev_J d100_78 rfl rfl rfl rfl rfl
theorem d100_81 : decode (ab_C 100) 81 = .ok (.aload_n 0, 1) := by decide +kernel
theorem e100_81 {d : Nat} {l1 l2 l3 l4 : Option Value} {x : Nat} {σ : ab_St} {Q : Option Value → ab_St → Prop} : Ev d 100 81 [some (.ref x), l1, l2, l3, l4] [] σ Q = Ev d 100 82 [some (.ref x), l1, l2, l3, l4] [.ref x] σ Q := ev_A1 d100_81 rfl
theorem d100_82 : decode (ab_C 100) 82 = .ok (.getfield 94, 3) := by decide +kernel
theorem e100_82 {d : Nat} {l0 l1 l2 l3 l4 : Option Value} {s0 : Nat} {σ : ab_St} {Q : Option Value → ab_St → Prop} : Ev d 100 82 [l0, l1, l2, l3, l4] [.ref s0] σ Q = (ab_k s0 = 10 ∧ Ev d 100 85 [l0, l1, l2, l3, l4] [.int (σ.1 s0 2)] σ Q) := ev_Hc (c := ab_k s0 = 10) d100_82 rfl rfl rfl rfl rfl rfl rfl rfl
theorem d100_85 : decode (ab_C 100) 85 = .ok (.ireturn, 1) := by decide +kernel
theorem e100_85 {d : Nat} {l0 l1 l2 l3 l4 : Option Value} {s0 : Int32} {σ : ab_St} {Q : Option Value → ab_St → Prop} : Ev d 100 85 [l0, l1, l2, l3, l4] [.int s0] σ Q = Q (some (.int s0)) σ := ev_E d100_85 rfl rfl rfl rfl rfl rfl rfl
/-! SaidLeastModel.in(JJJ)Z -/
theorem d101_0 : decode (ab_C 101) 0 = .ok (.lload_n 0, 1) := by decide +kernel
theorem e101_0 {d : Nat} {l2 l3 l4 l5 : Option Value} {x : Int64} {σ : ab_St} {Q : Option Value → ab_St → Prop} : Ev d 101 0 [some (.long x), none, l2, l3, l4, l5] [] σ Q = Ev d 101 1 [some (.long x), none, l2, l3, l4, l5] [.long x] σ Q := ev_A1 d101_0 rfl
theorem d101_1 : decode (ab_C 101) 1 = .ok (.lload_n 2, 1) := by decide +kernel
theorem e101_1 {d : Nat} {l0 l1 l4 l5 : Option Value} {x : Int64} {s0 : Int64} {σ : ab_St} {Q : Option Value → ab_St → Prop} : Ev d 101 1 [l0, l1, some (.long x), none, l4, l5] [.long s0] σ Q = Ev d 101 2 [l0, l1, some (.long x), none, l4, l5] [.long x, .long s0] σ Q := ev_A1 d101_1 rfl
theorem d101_2 : decode (ab_C 101) 2 = .ok (.lcmp, 1) := by decide +kernel
theorem e101_2 {d : Nat} {l0 l1 l2 l3 l4 l5 : Option Value} {s0 : Int64} {s1 : Int64} {σ : ab_St} {Q : Option Value → ab_St → Prop} : Ev d 101 2 [l0, l1, l2, l3, l4, l5] [.long s0, .long s1] σ Q = Ev d 101 3 [l0, l1, l2, l3, l4, l5] [.int (lg_cmp s1 s0)] σ Q := ev_A2 d101_2 rfl rfl
theorem d101_3 : decode (ab_C 101) 3 = .ok (.ifCond .lt 14, 3) := by decide +kernel
theorem e101_3 {d : Nat} {l0 l1 l2 l3 l4 l5 : Option Value} {s0 : Int32} {σ : ab_St} {Q : Option Value → ab_St → Prop} : Ev d 101 3 [l0, l1, l2, l3, l4, l5] [.int s0] σ Q = if s0 < 0 then Ev d 101 17 [l0, l1, l2, l3, l4, l5] [] σ Q else Ev d 101 6 [l0, l1, l2, l3, l4, l5] [] σ Q := ev_B (c := s0 < 0) d101_3 rfl rfl rfl rfl rfl
theorem d101_6 : decode (ab_C 101) 6 = .ok (.lload_n 0, 1) := by decide +kernel
theorem e101_6 {d : Nat} {l2 l3 l4 l5 : Option Value} {x : Int64} {σ : ab_St} {Q : Option Value → ab_St → Prop} : Ev d 101 6 [some (.long x), none, l2, l3, l4, l5] [] σ Q = Ev d 101 7 [some (.long x), none, l2, l3, l4, l5] [.long x] σ Q := ev_A1 d101_6 rfl
theorem d101_7 : decode (ab_C 101) 7 = .ok (.lload 4, 2) := by decide +kernel
theorem e101_7 {d : Nat} {l0 l1 l2 l3 : Option Value} {x : Int64} {s0 : Int64} {σ : ab_St} {Q : Option Value → ab_St → Prop} : Ev d 101 7 [l0, l1, l2, l3, some (.long x), none] [.long s0] σ Q = Ev d 101 9 [l0, l1, l2, l3, some (.long x), none] [.long x, .long s0] σ Q := ev_A1 d101_7 rfl
theorem d101_9 : decode (ab_C 101) 9 = .ok (.lcmp, 1) := by decide +kernel
theorem e101_9 {d : Nat} {l0 l1 l2 l3 l4 l5 : Option Value} {s0 : Int64} {s1 : Int64} {σ : ab_St} {Q : Option Value → ab_St → Prop} : Ev d 101 9 [l0, l1, l2, l3, l4, l5] [.long s0, .long s1] σ Q = Ev d 101 10 [l0, l1, l2, l3, l4, l5] [.int (lg_cmp s1 s0)] σ Q := ev_A2 d101_9 rfl rfl
theorem d101_10 : decode (ab_C 101) 10 = .ok (.ifCond .gt 7, 3) := by decide +kernel
theorem e101_10 {d : Nat} {l0 l1 l2 l3 l4 l5 : Option Value} {s0 : Int32} {σ : ab_St} {Q : Option Value → ab_St → Prop} : Ev d 101 10 [l0, l1, l2, l3, l4, l5] [.int s0] σ Q = if 0 < s0 then Ev d 101 17 [l0, l1, l2, l3, l4, l5] [] σ Q else Ev d 101 13 [l0, l1, l2, l3, l4, l5] [] σ Q := ev_B (c := 0 < s0) d101_10 rfl rfl rfl rfl rfl
theorem d101_13 : decode (ab_C 101) 13 = .ok (.iconst 1, 1) := by decide +kernel
theorem e101_13 {d : Nat} {l0 l1 l2 l3 l4 l5 : Option Value} {σ : ab_St} {Q : Option Value → ab_St → Prop} : Ev d 101 13 [l0, l1, l2, l3, l4, l5] [] σ Q = Ev d 101 14 [l0, l1, l2, l3, l4, l5] [.int 1] σ Q := ev_A1 d101_13 rfl
theorem d101_14 : decode (ab_C 101) 14 = .ok (.goto 4, 3) := by decide +kernel
theorem e101_14 {d : Nat} {l0 l1 l2 l3 l4 l5 : Option Value} {s0 : Int32} {σ : ab_St} {Q : Option Value → ab_St → Prop} : Ev d 101 14 [l0, l1, l2, l3, l4, l5] [.int s0] σ Q = Ev d 101 18 [l0, l1, l2, l3, l4, l5] [.int s0] σ Q := ev_J d101_14 rfl rfl rfl rfl rfl
theorem d101_17 : decode (ab_C 101) 17 = .ok (.iconst 0, 1) := by decide +kernel
theorem e101_17 {d : Nat} {l0 l1 l2 l3 l4 l5 : Option Value} {σ : ab_St} {Q : Option Value → ab_St → Prop} : Ev d 101 17 [l0, l1, l2, l3, l4, l5] [] σ Q = Ev d 101 18 [l0, l1, l2, l3, l4, l5] [.int 0] σ Q := ev_A1 d101_17 rfl
theorem d101_18 : decode (ab_C 101) 18 = .ok (.ireturn, 1) := by decide +kernel
theorem e101_18 {d : Nat} {l0 l1 l2 l3 l4 l5 : Option Value} {s0 : Int32} {σ : ab_St} {Q : Option Value → ab_St → Prop} : Ev d 101 18 [l0, l1, l2, l3, l4, l5] [.int s0] σ Q = ((s0 = 0 ∨ s0 = 1) ∧ Q (some (.int s0)) σ) := ev_Z d101_18 rfl
/-! SaidLeastModel.wipe()I -/
theorem d102_0 : decode (ab_C 102) 0 = .ok (.aload_n 0, 1) := by decide +kernel
theorem e102_0 {d : Nat} {l1 : Option Value} {x : Nat} {σ : ab_St} {Q : Option Value → ab_St → Prop} : Ev d 102 0 [some (.ref x), l1] [] σ Q = Ev d 102 1 [some (.ref x), l1] [.ref x] σ Q := ev_A1 d102_0 rfl
theorem d102_1 : decode (ab_C 102) 1 = .ok (.iconst 0, 1) := by decide +kernel
theorem e102_1 {d : Nat} {l0 l1 : Option Value} {s0 : Nat} {σ : ab_St} {Q : Option Value → ab_St → Prop} : Ev d 102 1 [l0, l1] [.ref s0] σ Q = Ev d 102 2 [l0, l1] [.int 0, .ref s0] σ Q := ev_A1 d102_1 rfl
theorem d102_2 : decode (ab_C 102) 2 = .ok (.putfield 79, 3) := by decide +kernel
theorem e102_2 {d : Nat} {l0 l1 : Option Value} {s0 : Int32} {s1 : Nat} {σ : ab_St} {Q : Option Value → ab_St → Prop} : Ev d 102 2 [l0, l1] [.int s0, .ref s1] σ Q = (ab_k s1 = 10 ∧ Ev d 102 5 [l0, l1] [] (ab_wI σ s1 (upd (σ.1 s1) 0 s0)) Q) := ev_Hc (c := ab_k s1 = 10) d102_2 rfl rfl rfl rfl rfl rfl rfl rfl
theorem d102_5 : decode (ab_C 102) 5 = .ok (.aload_n 0, 1) := by decide +kernel
theorem e102_5 {d : Nat} {l1 : Option Value} {x : Nat} {σ : ab_St} {Q : Option Value → ab_St → Prop} : Ev d 102 5 [some (.ref x), l1] [] σ Q = Ev d 102 6 [some (.ref x), l1] [.ref x] σ Q := ev_A1 d102_5 rfl
theorem d102_6 : decode (ab_C 102) 6 = .ok (.getfield 94, 3) := by decide +kernel
theorem e102_6 {d : Nat} {l0 l1 : Option Value} {s0 : Nat} {σ : ab_St} {Q : Option Value → ab_St → Prop} : Ev d 102 6 [l0, l1] [.ref s0] σ Q = (ab_k s0 = 10 ∧ Ev d 102 9 [l0, l1] [.int (σ.1 s0 2)] σ Q) := ev_Hc (c := ab_k s0 = 10) d102_6 rfl rfl rfl rfl rfl rfl rfl rfl
theorem d102_9 : decode (ab_C 102) 9 = .ok (.istore_n 1, 1) := by decide +kernel
theorem e102_9 {d : Nat} {l0 l1 : Option Value} {s0 : Int32} {σ : ab_St} {Q : Option Value → ab_St → Prop} : Ev d 102 9 [l0, l1] [.int s0] σ Q = Ev d 102 10 [l0, some (.int s0)] [] σ Q := ev_S d102_9 rfl rfl rfl rfl
theorem d102_10 : decode (ab_C 102) 10 = .ok (.aload_n 0, 1) := by decide +kernel
theorem e102_10 {d : Nat} {l1 : Option Value} {x : Nat} {σ : ab_St} {Q : Option Value → ab_St → Prop} : Ev d 102 10 [some (.ref x), l1] [] σ Q = Ev d 102 11 [some (.ref x), l1] [.ref x] σ Q := ev_A1 d102_10 rfl
theorem d102_11 : decode (ab_C 102) 11 = .ok (.iconst 0, 1) := by decide +kernel
theorem e102_11 {d : Nat} {l0 l1 : Option Value} {s0 : Nat} {σ : ab_St} {Q : Option Value → ab_St → Prop} : Ev d 102 11 [l0, l1] [.ref s0] σ Q = Ev d 102 12 [l0, l1] [.int 0, .ref s0] σ Q := ev_A1 d102_11 rfl
theorem d102_12 : decode (ab_C 102) 12 = .ok (.putfield 94, 3) := by decide +kernel
theorem e102_12 {d : Nat} {l0 l1 : Option Value} {s0 : Int32} {s1 : Nat} {σ : ab_St} {Q : Option Value → ab_St → Prop} : Ev d 102 12 [l0, l1] [.int s0, .ref s1] σ Q = (ab_k s1 = 10 ∧ Ev d 102 15 [l0, l1] [] (ab_wI σ s1 (upd (σ.1 s1) 2 s0)) Q) := ev_Hc (c := ab_k s1 = 10) d102_12 rfl rfl rfl rfl rfl rfl rfl rfl
theorem d102_15 : decode (ab_C 102) 15 = .ok (.iload_n 1, 1) := by decide +kernel
theorem e102_15 {d : Nat} {l0 : Option Value} {x : Int32} {σ : ab_St} {Q : Option Value → ab_St → Prop} : Ev d 102 15 [l0, some (.int x)] [] σ Q = Ev d 102 16 [l0, some (.int x)] [.int x] σ Q := ev_A1 d102_15 rfl
theorem d102_16 : decode (ab_C 102) 16 = .ok (.ireturn, 1) := by decide +kernel
theorem e102_16 {d : Nat} {l0 l1 : Option Value} {s0 : Int32} {σ : ab_St} {Q : Option Value → ab_St → Prop} : Ev d 102 16 [l0, l1] [.int s0] σ Q = Q (some (.int s0)) σ := ev_E d102_16 rfl rfl rfl rfl rfl rfl rfl
/-! SaidLeastModel.fault()I -/
theorem d103_0 : decode (ab_C 103) 0 = .ok (.aload_n 0, 1) := by decide +kernel
theorem e103_0 {d : Nat} {x : Nat} {σ : ab_St} {Q : Option Value → ab_St → Prop} : Ev d 103 0 [some (.ref x)] [] σ Q = Ev d 103 1 [some (.ref x)] [.ref x] σ Q := ev_A1 d103_0 rfl
theorem d103_1 : decode (ab_C 103) 1 = .ok (.iconst 0, 1) := by decide +kernel
theorem e103_1 {d : Nat} {l0 : Option Value} {s0 : Nat} {σ : ab_St} {Q : Option Value → ab_St → Prop} : Ev d 103 1 [l0] [.ref s0] σ Q = Ev d 103 2 [l0] [.int 0, .ref s0] σ Q := ev_A1 d103_1 rfl
theorem d103_2 : decode (ab_C 103) 2 = .ok (.putfield 79, 3) := by decide +kernel
theorem e103_2 {d : Nat} {l0 : Option Value} {s0 : Int32} {s1 : Nat} {σ : ab_St} {Q : Option Value → ab_St → Prop} : Ev d 103 2 [l0] [.int s0, .ref s1] σ Q = (ab_k s1 = 10 ∧ Ev d 103 5 [l0] [] (ab_wI σ s1 (upd (σ.1 s1) 0 s0)) Q) := ev_Hc (c := ab_k s1 = 10) d103_2 rfl rfl rfl rfl rfl rfl rfl rfl
theorem d103_5 : decode (ab_C 103) 5 = .ok (.aload_n 0, 1) := by decide +kernel
theorem e103_5 {d : Nat} {x : Nat} {σ : ab_St} {Q : Option Value → ab_St → Prop} : Ev d 103 5 [some (.ref x)] [] σ Q = Ev d 103 6 [some (.ref x)] [.ref x] σ Q := ev_A1 d103_5 rfl
theorem d103_6 : decode (ab_C 103) 6 = .ok (.invokevirtual 131, 3) := by decide +kernel
theorem e103_6 {d : Nat} {l0 : Option Value} {s0 : Nat} {σ : ab_St} {Q : Option Value → ab_St → Prop} : Ev (d + 1) 103 6 [l0] [.ref s0] σ Q = (ab_k s0 = 10 ∧ Ev d 104 0 [some (.ref s0)] [] σ (fun r σ2 => Ev (d + 1) 103 9 [l0] (r.toList ++ []) σ2 Q)) := ev_KV (b := s0) (ls := [l0]) (st := [.ref s0]) (as := []) (rest := []) d103_6 rfl rfl rfl (Nat.le_of_ble_eq_true rfl) (Nat.le_of_ble_eq_true rfl) (Nat.le_of_ble_eq_true rfl) rfl rfl rfl rfl rfl rfl rfl
theorem d103_9 : decode (ab_C 103) 9 = .ok (.ireturn, 1) := by decide +kernel
theorem e103_9 {d : Nat} {l0 : Option Value} {s0 : Int32} {σ : ab_St} {Q : Option Value → ab_St → Prop} : Ev d 103 9 [l0] [.int s0] σ Q = Q (some (.int s0)) σ := ev_E d103_9 rfl rfl rfl rfl rfl rfl rfl
/-! SaidLeastModel.readParlour()I -/
theorem d104_0 : decode (ab_C 104) 0 = .ok (.aload_n 0, 1) := by decide +kernel
theorem e104_0 {d : Nat} {x : Nat} {σ : ab_St} {Q : Option Value → ab_St → Prop} : Ev d 104 0 [some (.ref x)] [] σ Q = Ev d 104 1 [some (.ref x)] [.ref x] σ Q := ev_A1 d104_0 rfl
theorem d104_1 : decode (ab_C 104) 1 = .ok (.iconst 0, 1) := by decide +kernel
theorem e104_1 {d : Nat} {l0 : Option Value} {s0 : Nat} {σ : ab_St} {Q : Option Value → ab_St → Prop} : Ev d 104 1 [l0] [.ref s0] σ Q = Ev d 104 2 [l0] [.int 0, .ref s0] σ Q := ev_A1 d104_1 rfl
theorem d104_2 : decode (ab_C 104) 2 = .ok (.putfield 97, 3) := by decide +kernel
theorem e104_2 {d : Nat} {l0 : Option Value} {s0 : Int32} {s1 : Nat} {σ : ab_St} {Q : Option Value → ab_St → Prop} : Ev d 104 2 [l0] [.int s0, .ref s1] σ Q = (ab_k s1 = 10 ∧ Ev d 104 5 [l0] [] (ab_wI σ s1 (upd (σ.1 s1) 3 s0)) Q) := ev_Hc (c := ab_k s1 = 10) d104_2 rfl rfl rfl rfl rfl rfl rfl rfl
theorem d104_5 : decode (ab_C 104) 5 = .ok (.aload_n 0, 1) := by decide +kernel
theorem e104_5 {d : Nat} {x : Nat} {σ : ab_St} {Q : Option Value → ab_St → Prop} : Ev d 104 5 [some (.ref x)] [] σ Q = Ev d 104 6 [some (.ref x)] [.ref x] σ Q := ev_A1 d104_5 rfl
theorem d104_6 : decode (ab_C 104) 6 = .ok (.iconst 0, 1) := by decide +kernel
theorem e104_6 {d : Nat} {l0 : Option Value} {s0 : Nat} {σ : ab_St} {Q : Option Value → ab_St → Prop} : Ev d 104 6 [l0] [.ref s0] σ Q = Ev d 104 7 [l0] [.int 0, .ref s0] σ Q := ev_A1 d104_6 rfl
theorem d104_7 : decode (ab_C 104) 7 = .ok (.putfield 104, 3) := by decide +kernel
theorem e104_7 {d : Nat} {l0 : Option Value} {s0 : Int32} {s1 : Nat} {σ : ab_St} {Q : Option Value → ab_St → Prop} : Ev d 104 7 [l0] [.int s0, .ref s1] σ Q = (ab_k s1 = 10 ∧ Ev d 104 10 [l0] [] (ab_wI σ s1 (upd (σ.1 s1) 16 s0)) Q) := ev_Hc (c := ab_k s1 = 10) d104_7 rfl rfl rfl rfl rfl rfl rfl rfl
theorem d104_10 : decode (ab_C 104) 10 = .ok (.aload_n 0, 1) := by decide +kernel
theorem e104_10 {d : Nat} {x : Nat} {σ : ab_St} {Q : Option Value → ab_St → Prop} : Ev d 104 10 [some (.ref x)] [] σ Q = Ev d 104 11 [some (.ref x)] [.ref x] σ Q := ev_A1 d104_10 rfl
theorem d104_11 : decode (ab_C 104) 11 = .ok (.iconst 0, 1) := by decide +kernel
theorem e104_11 {d : Nat} {l0 : Option Value} {s0 : Nat} {σ : ab_St} {Q : Option Value → ab_St → Prop} : Ev d 104 11 [l0] [.ref s0] σ Q = Ev d 104 12 [l0] [.int 0, .ref s0] σ Q := ev_A1 d104_11 rfl
theorem d104_12 : decode (ab_C 104) 12 = .ok (.putfield 107, 3) := by decide +kernel
theorem e104_12 {d : Nat} {l0 : Option Value} {s0 : Int32} {s1 : Nat} {σ : ab_St} {Q : Option Value → ab_St → Prop} : Ev d 104 12 [l0] [.int s0, .ref s1] σ Q = (ab_k s1 = 10 ∧ Ev d 104 15 [l0] [] (ab_wI σ s1 (upd (σ.1 s1) 18 s0)) Q) := ev_Hc (c := ab_k s1 = 10) d104_12 rfl rfl rfl rfl rfl rfl rfl rfl
theorem d104_15 : decode (ab_C 104) 15 = .ok (.aload_n 0, 1) := by decide +kernel
theorem e104_15 {d : Nat} {x : Nat} {σ : ab_St} {Q : Option Value → ab_St → Prop} : Ev d 104 15 [some (.ref x)] [] σ Q = Ev d 104 16 [some (.ref x)] [.ref x] σ Q := ev_A1 d104_15 rfl
theorem d104_16 : decode (ab_C 104) 16 = .ok (.iconst 0, 1) := by decide +kernel
theorem e104_16 {d : Nat} {l0 : Option Value} {s0 : Nat} {σ : ab_St} {Q : Option Value → ab_St → Prop} : Ev d 104 16 [l0] [.ref s0] σ Q = Ev d 104 17 [l0] [.int 0, .ref s0] σ Q := ev_A1 d104_16 rfl
theorem d104_17 : decode (ab_C 104) 17 = .ok (.putfield 110, 3) := by decide +kernel
theorem e104_17 {d : Nat} {l0 : Option Value} {s0 : Int32} {s1 : Nat} {σ : ab_St} {Q : Option Value → ab_St → Prop} : Ev d 104 17 [l0] [.int s0, .ref s1] σ Q = (ab_k s1 = 10 ∧ Ev d 104 20 [l0] [] (ab_wI σ s1 (upd (σ.1 s1) 19 s0)) Q) := ev_Hc (c := ab_k s1 = 10) d104_17 rfl rfl rfl rfl rfl rfl rfl rfl
theorem d104_20 : decode (ab_C 104) 20 = .ok (.aload_n 0, 1) := by decide +kernel
theorem e104_20 {d : Nat} {x : Nat} {σ : ab_St} {Q : Option Value → ab_St → Prop} : Ev d 104 20 [some (.ref x)] [] σ Q = Ev d 104 21 [some (.ref x)] [.ref x] σ Q := ev_A1 d104_20 rfl
theorem d104_21 : decode (ab_C 104) 21 = .ok (.getfield 94, 3) := by decide +kernel
theorem e104_21 {d : Nat} {l0 : Option Value} {s0 : Nat} {σ : ab_St} {Q : Option Value → ab_St → Prop} : Ev d 104 21 [l0] [.ref s0] σ Q = (ab_k s0 = 10 ∧ Ev d 104 24 [l0] [.int (σ.1 s0 2)] σ Q) := ev_Hc (c := ab_k s0 = 10) d104_21 rfl rfl rfl rfl rfl rfl rfl rfl
theorem d104_24 : decode (ab_C 104) 24 = .ok (.ifCond .eq 14, 3) := by decide +kernel
theorem e104_24 {d : Nat} {l0 : Option Value} {s0 : Int32} {σ : ab_St} {Q : Option Value → ab_St → Prop} : Ev d 104 24 [l0] [.int s0] σ Q = if s0 = 0 then Ev d 104 38 [l0] [] σ Q else Ev d 104 27 [l0] [] σ Q := ev_B (c := s0 = 0) d104_24 rfl rfl rfl rfl rfl
theorem d104_27 : decode (ab_C 104) 27 = .ok (.aload_n 0, 1) := by decide +kernel
theorem e104_27 {d : Nat} {x : Nat} {σ : ab_St} {Q : Option Value → ab_St → Prop} : Ev d 104 27 [some (.ref x)] [] σ Q = Ev d 104 28 [some (.ref x)] [.ref x] σ Q := ev_A1 d104_27 rfl
theorem d104_28 : decode (ab_C 104) 28 = .ok (.getfield 7, 3) := by decide +kernel
theorem e104_28 {d : Nat} {l0 : Option Value} {s0 : Nat} {σ : ab_St} {Q : Option Value → ab_St → Prop} : Ev d 104 28 [l0] [.ref s0] σ Q = (ab_k s0 = 10 ∧ Ev d 104 31 [l0] [.ref (ab_r s0 1)] σ Q) := ev_Hc (c := ab_k s0 = 10) d104_28 rfl rfl rfl rfl rfl rfl rfl rfl
theorem d104_31 : decode (ab_C 104) 31 = .ok (.iconst 0, 1) := by decide +kernel
theorem e104_31 {d : Nat} {l0 : Option Value} {s0 : Nat} {σ : ab_St} {Q : Option Value → ab_St → Prop} : Ev d 104 31 [l0] [.ref s0] σ Q = Ev d 104 32 [l0] [.int 0, .ref s0] σ Q := ev_A1 d104_31 rfl
theorem d104_32 : decode (ab_C 104) 32 = .ok (.iaload, 1) := by decide +kernel
theorem e104_32 {d : Nat} {l0 : Option Value} {s0 : Int32} {s1 : Nat} {σ : ab_St} {Q : Option Value → ab_St → Prop} : Ev d 104 32 [l0] [.int s0, .ref s1] σ Q = ((ab_k s1 = 100 ∧ ab_in s0 (ab_n s1)) ∧ Ev d 104 33 [l0] [.int (σ.1 s1 s0.toNatClampNeg)] σ Q) := ev_Hc (c := ab_k s1 = 100 ∧ ab_in s0 (ab_n s1)) d104_32 rfl rfl rfl rfl rfl rfl rfl rfl
theorem d104_33 : decode (ab_C 104) 33 = .ok (.bipush 81, 2) := by decide +kernel
theorem e104_33 {d : Nat} {l0 : Option Value} {s0 : Int32} {σ : ab_St} {Q : Option Value → ab_St → Prop} : Ev d 104 33 [l0] [.int s0] σ Q = Ev d 104 35 [l0] [.int 81, .int s0] σ Q := ev_A1 d104_33 rfl
theorem d104_35 : decode (ab_C 104) 35 = .ok (.if_icmp .eq 5, 3) := by decide +kernel
theorem e104_35 {d : Nat} {l0 : Option Value} {s0 : Int32} {s1 : Int32} {σ : ab_St} {Q : Option Value → ab_St → Prop} : Ev d 104 35 [l0] [.int s0, .int s1] σ Q = if s1 = s0 then Ev d 104 40 [l0] [] σ Q else Ev d 104 38 [l0] [] σ Q := ev_B (c := s1 = s0) d104_35 rfl rfl rfl rfl rfl
theorem d104_38 : decode (ab_C 104) 38 = .ok (.iconst 0, 1) := by decide +kernel
theorem e104_38 {d : Nat} {l0 : Option Value} {σ : ab_St} {Q : Option Value → ab_St → Prop} : Ev d 104 38 [l0] [] σ Q = Ev d 104 39 [l0] [.int 0] σ Q := ev_A1 d104_38 rfl
theorem d104_39 : decode (ab_C 104) 39 = .ok (.ireturn, 1) := by decide +kernel
theorem e104_39 {d : Nat} {l0 : Option Value} {s0 : Int32} {σ : ab_St} {Q : Option Value → ab_St → Prop} : Ev d 104 39 [l0] [.int s0] σ Q = Q (some (.int s0)) σ := ev_E d104_39 rfl rfl rfl rfl rfl rfl rfl
theorem d104_40 : decode (ab_C 104) 40 = .ok (.aload_n 0, 1) := by decide +kernel
theorem e104_40 {d : Nat} {x : Nat} {σ : ab_St} {Q : Option Value → ab_St → Prop} : Ev d 104 40 [some (.ref x)] [] σ Q = Ev d 104 41 [some (.ref x)] [.ref x] σ Q := ev_A1 d104_40 rfl
theorem d104_41 : decode (ab_C 104) 41 = .ok (.iconst 1, 1) := by decide +kernel
theorem e104_41 {d : Nat} {l0 : Option Value} {s0 : Nat} {σ : ab_St} {Q : Option Value → ab_St → Prop} : Ev d 104 41 [l0] [.ref s0] σ Q = Ev d 104 42 [l0] [.int 1, .ref s0] σ Q := ev_A1 d104_41 rfl
theorem d104_42 : decode (ab_C 104) 42 = .ok (.putfield 97, 3) := by decide +kernel
theorem e104_42 {d : Nat} {l0 : Option Value} {s0 : Int32} {s1 : Nat} {σ : ab_St} {Q : Option Value → ab_St → Prop} : Ev d 104 42 [l0] [.int s0, .ref s1] σ Q = (ab_k s1 = 10 ∧ Ev d 104 45 [l0] [] (ab_wI σ s1 (upd (σ.1 s1) 3 s0)) Q) := ev_Hc (c := ab_k s1 = 10) d104_42 rfl rfl rfl rfl rfl rfl rfl rfl
theorem d104_45 : decode (ab_C 104) 45 = .ok (.aload_n 0, 1) := by decide +kernel
theorem e104_45 {d : Nat} {x : Nat} {σ : ab_St} {Q : Option Value → ab_St → Prop} : Ev d 104 45 [some (.ref x)] [] σ Q = Ev d 104 46 [some (.ref x)] [.ref x] σ Q := ev_A1 d104_45 rfl
theorem d104_46 : decode (ab_C 104) 46 = .ok (.aload_n 0, 1) := by decide +kernel
theorem e104_46 {d : Nat} {x : Nat} {s0 : Nat} {σ : ab_St} {Q : Option Value → ab_St → Prop} : Ev d 104 46 [some (.ref x)] [.ref s0] σ Q = Ev d 104 47 [some (.ref x)] [.ref x, .ref s0] σ Q := ev_A1 d104_46 rfl
theorem d104_47 : decode (ab_C 104) 47 = .ok (.iconst 0, 1) := by decide +kernel
theorem e104_47 {d : Nat} {l0 : Option Value} {s0 : Nat} {s1 : Nat} {σ : ab_St} {Q : Option Value → ab_St → Prop} : Ev d 104 47 [l0] [.ref s0, .ref s1] σ Q = Ev d 104 48 [l0] [.int 0, .ref s0, .ref s1] σ Q := ev_A1 d104_47 rfl
theorem d104_48 : decode (ab_C 104) 48 = .ok (.iconst 2, 1) := by decide +kernel
theorem e104_48 {d : Nat} {l0 : Option Value} {s0 : Int32} {s1 : Nat} {s2 : Nat} {σ : ab_St} {Q : Option Value → ab_St → Prop} : Ev d 104 48 [l0] [.int s0, .ref s1, .ref s2] σ Q = Ev d 104 49 [l0] [.int 2, .int s0, .ref s1, .ref s2] σ Q := ev_A1 d104_48 rfl
theorem d104_49 : decode (ab_C 104) 49 = .ok (.invokevirtual 100, 3) := by decide +kernel
theorem e104_49 {d : Nat} {l0 : Option Value} {s0 : Int32} {s1 : Int32} {s2 : Nat} {s3 : Nat} {σ : ab_St} {Q : Option Value → ab_St → Prop} : Ev (d + 1) 104 49 [l0] [.int s0, .int s1, .ref s2, .ref s3] σ Q = (ab_k s2 = 10 ∧ Ev d 105 0 [some (.ref s2), some (.int s1), some (.int s0)] [] σ (fun r σ2 => Ev (d + 1) 104 52 [l0] (r.toList ++ [.ref s3]) σ2 Q)) := ev_KV (b := s2) (ls := [l0]) (st := [.int s0, .int s1, .ref s2, .ref s3]) (as := [.int s1, .int s0]) (rest := [.ref s3]) d104_49 rfl rfl rfl (Nat.le_of_ble_eq_true rfl) (Nat.le_of_ble_eq_true rfl) (Nat.le_of_ble_eq_true rfl) rfl rfl rfl rfl rfl rfl rfl
theorem d104_52 : decode (ab_C 104) 52 = .ok (.putfield 125, 3) := by decide +kernel
theorem e104_52 {d : Nat} {l0 : Option Value} {s0 : Int32} {s1 : Nat} {σ : ab_St} {Q : Option Value → ab_St → Prop} : Ev d 104 52 [l0] [.int s0, .ref s1] σ Q = (ab_k s1 = 10 ∧ Ev d 104 55 [l0] [] (ab_wI σ s1 (upd (σ.1 s1) 15 s0)) Q) := ev_Hc (c := ab_k s1 = 10) d104_52 rfl rfl rfl rfl rfl rfl rfl rfl
theorem d104_55 : decode (ab_C 104) 55 = .ok (.aload_n 0, 1) := by decide +kernel
theorem e104_55 {d : Nat} {x : Nat} {σ : ab_St} {Q : Option Value → ab_St → Prop} : Ev d 104 55 [some (.ref x)] [] σ Q = Ev d 104 56 [some (.ref x)] [.ref x] σ Q := ev_A1 d104_55 rfl
theorem d104_56 : decode (ab_C 104) 56 = .ok (.getfield 125, 3) := by decide +kernel
theorem e104_56 {d : Nat} {l0 : Option Value} {s0 : Nat} {σ : ab_St} {Q : Option Value → ab_St → Prop} : Ev d 104 56 [l0] [.ref s0] σ Q = (ab_k s0 = 10 ∧ Ev d 104 59 [l0] [.int (σ.1 s0 15)] σ Q) := ev_Hc (c := ab_k s0 = 10) d104_56 rfl rfl rfl rfl rfl rfl rfl rfl
theorem d104_59 : decode (ab_C 104) 59 = .ok (.bipush (-9), 2) := by decide +kernel
theorem e104_59 {d : Nat} {l0 : Option Value} {s0 : Int32} {σ : ab_St} {Q : Option Value → ab_St → Prop} : Ev d 104 59 [l0] [.int s0] σ Q = Ev d 104 61 [l0] [.int (-9), .int s0] σ Q := ev_A1 d104_59 rfl
theorem d104_61 : decode (ab_C 104) 61 = .ok (.if_icmp .ne 5, 3) := by decide +kernel
theorem e104_61 {d : Nat} {l0 : Option Value} {s0 : Int32} {s1 : Int32} {σ : ab_St} {Q : Option Value → ab_St → Prop} : Ev d 104 61 [l0] [.int s0, .int s1] σ Q = if s1 = s0 then Ev d 104 64 [l0] [] σ Q else Ev d 104 66 [l0] [] σ Q := ev_B (c := s1 = s0) d104_61 rfl rfl rfl rfl rfl
theorem d104_64 : decode (ab_C 104) 64 = .ok (.iconst 1, 1) := by decide +kernel
theorem e104_64 {d : Nat} {l0 : Option Value} {σ : ab_St} {Q : Option Value → ab_St → Prop} : Ev d 104 64 [l0] [] σ Q = Ev d 104 65 [l0] [.int 1] σ Q := ev_A1 d104_64 rfl
theorem d104_65 : decode (ab_C 104) 65 = .ok (.ireturn, 1) := by decide +kernel
theorem e104_65 {d : Nat} {l0 : Option Value} {s0 : Int32} {σ : ab_St} {Q : Option Value → ab_St → Prop} : Ev d 104 65 [l0] [.int s0] σ Q = Q (some (.int s0)) σ := ev_E d104_65 rfl rfl rfl rfl rfl rfl rfl
theorem d104_66 : decode (ab_C 104) 66 = .ok (.aload_n 0, 1) := by decide +kernel
theorem e104_66 {d : Nat} {x : Nat} {σ : ab_St} {Q : Option Value → ab_St → Prop} : Ev d 104 66 [some (.ref x)] [] σ Q = Ev d 104 67 [some (.ref x)] [.ref x] σ Q := ev_A1 d104_66 rfl
theorem d104_67 : decode (ab_C 104) 67 = .ok (.getfield 97, 3) := by decide +kernel
theorem e104_67 {d : Nat} {l0 : Option Value} {s0 : Nat} {σ : ab_St} {Q : Option Value → ab_St → Prop} : Ev d 104 67 [l0] [.ref s0] σ Q = (ab_k s0 = 10 ∧ Ev d 104 70 [l0] [.int (σ.1 s0 3)] σ Q) := ev_Hc (c := ab_k s0 = 10) d104_67 rfl rfl rfl rfl rfl rfl rfl rfl
theorem d104_70 : decode (ab_C 104) 70 = .ok (.aload_n 0, 1) := by decide +kernel
theorem e104_70 {d : Nat} {x : Nat} {s0 : Int32} {σ : ab_St} {Q : Option Value → ab_St → Prop} : Ev d 104 70 [some (.ref x)] [.int s0] σ Q = Ev d 104 71 [some (.ref x)] [.ref x, .int s0] σ Q := ev_A1 d104_70 rfl
theorem d104_71 : decode (ab_C 104) 71 = .ok (.getfield 94, 3) := by decide +kernel
theorem e104_71 {d : Nat} {l0 : Option Value} {s0 : Nat} {s1 : Int32} {σ : ab_St} {Q : Option Value → ab_St → Prop} : Ev d 104 71 [l0] [.ref s0, .int s1] σ Q = (ab_k s0 = 10 ∧ Ev d 104 74 [l0] [.int (σ.1 s0 2), .int s1] σ Q) := ev_Hc (c := ab_k s0 = 10) d104_71 rfl rfl rfl rfl rfl rfl rfl rfl
theorem d104_74 : decode (ab_C 104) 74 = .ok (.if_icmp .ge 15, 3) := by decide +kernel
theorem e104_74 {d : Nat} {l0 : Option Value} {s0 : Int32} {s1 : Int32} {σ : ab_St} {Q : Option Value → ab_St → Prop} : Ev d 104 74 [l0] [.int s0, .int s1] σ Q = if s0 ≤ s1 then Ev d 104 89 [l0] [] σ Q else Ev d 104 77 [l0] [] σ Q := ev_B (c := s0 ≤ s1) d104_74 rfl rfl rfl rfl rfl
theorem d104_77 : decode (ab_C 104) 77 = .ok (.aload_n 0, 1) := by decide +kernel
theorem e104_77 {d : Nat} {x : Nat} {σ : ab_St} {Q : Option Value → ab_St → Prop} : Ev d 104 77 [some (.ref x)] [] σ Q = Ev d 104 78 [some (.ref x)] [.ref x] σ Q := ev_A1 d104_77 rfl
theorem d104_78 : decode (ab_C 104) 78 = .ok (.invokevirtual 128, 3) := by decide +kernel
theorem e104_78 {d : Nat} {l0 : Option Value} {s0 : Nat} {σ : ab_St} {Q : Option Value → ab_St → Prop} : Ev (d + 1) 104 78 [l0] [.ref s0] σ Q = (ab_k s0 = 10 ∧ Ev d 106 0 [some (.ref s0), none] [] σ (fun r σ2 => Ev (d + 1) 104 81 [l0] (r.toList ++ []) σ2 Q)) := ev_KV (b := s0) (ls := [l0]) (st := [.ref s0]) (as := []) (rest := []) d104_78 rfl rfl rfl (Nat.le_of_ble_eq_true rfl) (Nat.le_of_ble_eq_true rfl) (Nat.le_of_ble_eq_true rfl) rfl rfl rfl rfl rfl rfl rfl
theorem d104_81 : decode (ab_C 104) 81 = .ok (.ifCond .ne (-15), 3) := by decide +kernel
theorem e104_81 {d : Nat} {l0 : Option Value} {s0 : Int32} {σ : ab_St} {Q : Option Value → ab_St → Prop} : Ev d 104 81 [l0] [.int s0] σ Q = if s0 = 0 then Ev d 104 84 [l0] [] σ Q else Ev d 104 66 [l0] [] σ Q := ev_B (c := s0 = 0) d104_81 rfl rfl rfl rfl rfl
theorem d104_84 : decode (ab_C 104) 84 = .ok (.aload_n 0, 1) := by decide +kernel
theorem e104_84 {d : Nat} {x : Nat} {σ : ab_St} {Q : Option Value → ab_St → Prop} : Ev d 104 84 [some (.ref x)] [] σ Q = Ev d 104 85 [some (.ref x)] [.ref x] σ Q := ev_A1 d104_84 rfl
theorem d104_85 : decode (ab_C 104) 85 = .ok (.getfield 97, 3) := by decide +kernel
theorem e104_85 {d : Nat} {l0 : Option Value} {s0 : Nat} {σ : ab_St} {Q : Option Value → ab_St → Prop} : Ev d 104 85 [l0] [.ref s0] σ Q = (ab_k s0 = 10 ∧ Ev d 104 88 [l0] [.int (σ.1 s0 3)] σ Q) := ev_Hc (c := ab_k s0 = 10) d104_85 rfl rfl rfl rfl rfl rfl rfl rfl
theorem d104_88 : decode (ab_C 104) 88 = .ok (.ireturn, 1) := by decide +kernel
theorem e104_88 {d : Nat} {l0 : Option Value} {s0 : Int32} {σ : ab_St} {Q : Option Value → ab_St → Prop} : Ev d 104 88 [l0] [.int s0] σ Q = Q (some (.int s0)) σ := ev_E d104_88 rfl rfl rfl rfl rfl rfl rfl
theorem d104_89 : decode (ab_C 104) 89 = .ok (.bipush (-9), 2) := by decide +kernel
theorem e104_89 {d : Nat} {l0 : Option Value} {σ : ab_St} {Q : Option Value → ab_St → Prop} : Ev d 104 89 [l0] [] σ Q = Ev d 104 91 [l0] [.int (-9)] σ Q := ev_A1 d104_89 rfl
theorem d104_91 : decode (ab_C 104) 91 = .ok (.ireturn, 1) := by decide +kernel
theorem e104_91 {d : Nat} {l0 : Option Value} {s0 : Int32} {σ : ab_St} {Q : Option Value → ab_St → Prop} : Ev d 104 91 [l0] [.int s0] σ Q = Q (some (.int s0)) σ := ev_E d104_91 rfl rfl rfl rfl rfl rfl rfl
/-! SaidLeastModel.figure(II)I -/
theorem d105_0 : decode (ab_C 105) 0 = .ok (.aload_n 0, 1) := by decide +kernel
theorem e105_0 {d : Nat} {l1 l2 : Option Value} {x : Nat} {σ : ab_St} {Q : Option Value → ab_St → Prop} : Ev d 105 0 [some (.ref x), l1, l2] [] σ Q = Ev d 105 1 [some (.ref x), l1, l2] [.ref x] σ Q := ev_A1 d105_0 rfl
theorem d105_1 : decode (ab_C 105) 1 = .ok (.getfield 97, 3) := by decide +kernel
theorem e105_1 {d : Nat} {l0 l1 l2 : Option Value} {s0 : Nat} {σ : ab_St} {Q : Option Value → ab_St → Prop} : Ev d 105 1 [l0, l1, l2] [.ref s0] σ Q = (ab_k s0 = 10 ∧ Ev d 105 4 [l0, l1, l2] [.int (σ.1 s0 3)] σ Q) := ev_Hc (c := ab_k s0 = 10) d105_1 rfl rfl rfl rfl rfl rfl rfl rfl
theorem d105_4 : decode (ab_C 105) 4 = .ok (.aload_n 0, 1) := by decide +kernel
theorem e105_4 {d : Nat} {l1 l2 : Option Value} {x : Nat} {s0 : Int32} {σ : ab_St} {Q : Option Value → ab_St → Prop} : Ev d 105 4 [some (.ref x), l1, l2] [.int s0] σ Q = Ev d 105 5 [some (.ref x), l1, l2] [.ref x, .int s0] σ Q := ev_A1 d105_4 rfl
theorem d105_5 : decode (ab_C 105) 5 = .ok (.getfield 94, 3) := by decide +kernel
theorem e105_5 {d : Nat} {l0 l1 l2 : Option Value} {s0 : Nat} {s1 : Int32} {σ : ab_St} {Q : Option Value → ab_St → Prop} : Ev d 105 5 [l0, l1, l2] [.ref s0, .int s1] σ Q = (ab_k s0 = 10 ∧ Ev d 105 8 [l0, l1, l2] [.int (σ.1 s0 2), .int s1] σ Q) := ev_Hc (c := ab_k s0 = 10) d105_5 rfl rfl rfl rfl rfl rfl rfl rfl
theorem d105_8 : decode (ab_C 105) 8 = .ok (.if_icmp .eq 26, 3) := by decide +kernel
theorem e105_8 {d : Nat} {l0 l1 l2 : Option Value} {s0 : Int32} {s1 : Int32} {σ : ab_St} {Q : Option Value → ab_St → Prop} : Ev d 105 8 [l0, l1, l2] [.int s0, .int s1] σ Q = if s1 = s0 then Ev d 105 34 [l0, l1, l2] [] σ Q else Ev d 105 11 [l0, l1, l2] [] σ Q := ev_B (c := s1 = s0) d105_8 rfl rfl rfl rfl rfl
theorem d105_11 : decode (ab_C 105) 11 = .ok (.aload_n 0, 1) := by decide +kernel
theorem e105_11 {d : Nat} {l1 l2 : Option Value} {x : Nat} {σ : ab_St} {Q : Option Value → ab_St → Prop} : Ev d 105 11 [some (.ref x), l1, l2] [] σ Q = Ev d 105 12 [some (.ref x), l1, l2] [.ref x] σ Q := ev_A1 d105_11 rfl
theorem d105_12 : decode (ab_C 105) 12 = .ok (.getfield 7, 3) := by decide +kernel
theorem e105_12 {d : Nat} {l0 l1 l2 : Option Value} {s0 : Nat} {σ : ab_St} {Q : Option Value → ab_St → Prop} : Ev d 105 12 [l0, l1, l2] [.ref s0] σ Q = (ab_k s0 = 10 ∧ Ev d 105 15 [l0, l1, l2] [.ref (ab_r s0 1)] σ Q) := ev_Hc (c := ab_k s0 = 10) d105_12 rfl rfl rfl rfl rfl rfl rfl rfl
theorem d105_15 : decode (ab_C 105) 15 = .ok (.aload_n 0, 1) := by decide +kernel
theorem e105_15 {d : Nat} {l1 l2 : Option Value} {x : Nat} {s0 : Nat} {σ : ab_St} {Q : Option Value → ab_St → Prop} : Ev d 105 15 [some (.ref x), l1, l2] [.ref s0] σ Q = Ev d 105 16 [some (.ref x), l1, l2] [.ref x, .ref s0] σ Q := ev_A1 d105_15 rfl
theorem d105_16 : decode (ab_C 105) 16 = .ok (.getfield 97, 3) := by decide +kernel
theorem e105_16 {d : Nat} {l0 l1 l2 : Option Value} {s0 : Nat} {s1 : Nat} {σ : ab_St} {Q : Option Value → ab_St → Prop} : Ev d 105 16 [l0, l1, l2] [.ref s0, .ref s1] σ Q = (ab_k s0 = 10 ∧ Ev d 105 19 [l0, l1, l2] [.int (σ.1 s0 3), .ref s1] σ Q) := ev_Hc (c := ab_k s0 = 10) d105_16 rfl rfl rfl rfl rfl rfl rfl rfl
theorem d105_19 : decode (ab_C 105) 19 = .ok (.iaload, 1) := by decide +kernel
theorem e105_19 {d : Nat} {l0 l1 l2 : Option Value} {s0 : Int32} {s1 : Nat} {σ : ab_St} {Q : Option Value → ab_St → Prop} : Ev d 105 19 [l0, l1, l2] [.int s0, .ref s1] σ Q = ((ab_k s1 = 100 ∧ ab_in s0 (ab_n s1)) ∧ Ev d 105 20 [l0, l1, l2] [.int (σ.1 s1 s0.toNatClampNeg)] σ Q) := ev_Hc (c := ab_k s1 = 100 ∧ ab_in s0 (ab_n s1)) d105_19 rfl rfl rfl rfl rfl rfl rfl rfl
theorem d105_20 : decode (ab_C 105) 20 = .ok (.bipush 48, 2) := by decide +kernel
theorem e105_20 {d : Nat} {l0 l1 l2 : Option Value} {s0 : Int32} {σ : ab_St} {Q : Option Value → ab_St → Prop} : Ev d 105 20 [l0, l1, l2] [.int s0] σ Q = Ev d 105 22 [l0, l1, l2] [.int 48, .int s0] σ Q := ev_A1 d105_20 rfl
theorem d105_22 : decode (ab_C 105) 22 = .ok (.isub, 1) := by decide +kernel
theorem e105_22 {d : Nat} {l0 l1 l2 : Option Value} {s0 : Int32} {s1 : Int32} {σ : ab_St} {Q : Option Value → ab_St → Prop} : Ev d 105 22 [l0, l1, l2] [.int s0, .int s1] σ Q = Ev d 105 23 [l0, l1, l2] [.int (s1 - s0)] σ Q := ev_A2 d105_22 rfl rfl
theorem d105_23 : decode (ab_C 105) 23 = .ok (.i2l, 1) := by decide +kernel
theorem e105_23 {d : Nat} {l0 l1 l2 : Option Value} {s0 : Int32} {σ : ab_St} {Q : Option Value → ab_St → Prop} : Ev d 105 23 [l0, l1, l2] [.int s0] σ Q = Ev d 105 24 [l0, l1, l2] [.long s0.toInt64] σ Q := ev_A2 d105_23 rfl rfl
theorem d105_24 : decode (ab_C 105) 24 = .ok (.iload_n 1, 1) := by decide +kernel
theorem e105_24 {d : Nat} {l0 l2 : Option Value} {x : Int32} {s0 : Int64} {σ : ab_St} {Q : Option Value → ab_St → Prop} : Ev d 105 24 [l0, some (.int x), l2] [.long s0] σ Q = Ev d 105 25 [l0, some (.int x), l2] [.int x, .long s0] σ Q := ev_A1 d105_24 rfl
theorem d105_25 : decode (ab_C 105) 25 = .ok (.i2l, 1) := by decide +kernel
theorem e105_25 {d : Nat} {l0 l1 l2 : Option Value} {s0 : Int32} {s1 : Int64} {σ : ab_St} {Q : Option Value → ab_St → Prop} : Ev d 105 25 [l0, l1, l2] [.int s0, .long s1] σ Q = Ev d 105 26 [l0, l1, l2] [.long s0.toInt64, .long s1] σ Q := ev_A2 d105_25 rfl rfl
theorem d105_26 : decode (ab_C 105) 26 = .ok (.iload_n 2, 1) := by decide +kernel
theorem e105_26 {d : Nat} {l0 l1 : Option Value} {x : Int32} {s0 : Int64} {s1 : Int64} {σ : ab_St} {Q : Option Value → ab_St → Prop} : Ev d 105 26 [l0, l1, some (.int x)] [.long s0, .long s1] σ Q = Ev d 105 27 [l0, l1, some (.int x)] [.int x, .long s0, .long s1] σ Q := ev_A1 d105_26 rfl
theorem d105_27 : decode (ab_C 105) 27 = .ok (.i2l, 1) := by decide +kernel
theorem e105_27 {d : Nat} {l0 l1 l2 : Option Value} {s0 : Int32} {s1 : Int64} {s2 : Int64} {σ : ab_St} {Q : Option Value → ab_St → Prop} : Ev d 105 27 [l0, l1, l2] [.int s0, .long s1, .long s2] σ Q = Ev d 105 28 [l0, l1, l2] [.long s0.toInt64, .long s1, .long s2] σ Q := ev_A2 d105_27 rfl rfl
theorem d105_28 : decode (ab_C 105) 28 = .ok (.invokestatic 85, 3) := by decide +kernel
theorem e105_28 {d : Nat} {l0 l1 l2 : Option Value} {s0 : Int64} {s1 : Int64} {s2 : Int64} {σ : ab_St} {Q : Option Value → ab_St → Prop} : Ev (d + 1) 105 28 [l0, l1, l2] [.long s0, .long s1, .long s2] σ Q = Ev d 101 0 [some (.long s2), none, some (.long s1), none, some (.long s0), none] [] σ (fun r σ2 => Ev (d + 1) 105 31 [l0, l1, l2] (r.toList ++ []) σ2 Q) := ev_K0 (y := 101) (ls := [l0, l1, l2]) (st := [.long s0, .long s1, .long s2]) (as := [.long s2, .long s1, .long s0]) (rest := []) d105_28 rfl rfl rfl rfl rfl rfl rfl rfl
theorem d105_31 : decode (ab_C 105) 31 = .ok (.ifCond .ne 6, 3) := by decide +kernel
theorem e105_31 {d : Nat} {l0 l1 l2 : Option Value} {s0 : Int32} {σ : ab_St} {Q : Option Value → ab_St → Prop} : Ev d 105 31 [l0, l1, l2] [.int s0] σ Q = if s0 = 0 then Ev d 105 34 [l0, l1, l2] [] σ Q else Ev d 105 37 [l0, l1, l2] [] σ Q := ev_B (c := s0 = 0) d105_31 rfl rfl rfl rfl rfl
theorem d105_34 : decode (ab_C 105) 34 = .ok (.bipush (-9), 2) := by decide +kernel
theorem e105_34 {d : Nat} {l0 l1 l2 : Option Value} {σ : ab_St} {Q : Option Value → ab_St → Prop} : Ev d 105 34 [l0, l1, l2] [] σ Q = Ev d 105 36 [l0, l1, l2] [.int (-9)] σ Q := ev_A1 d105_34 rfl
theorem d105_36 : decode (ab_C 105) 36 = .ok (.ireturn, 1) := by decide +kernel
theorem e105_36 {d : Nat} {l0 l1 l2 : Option Value} {s0 : Int32} {σ : ab_St} {Q : Option Value → ab_St → Prop} : Ev d 105 36 [l0, l1, l2] [.int s0] σ Q = Q (some (.int s0)) σ := ev_E d105_36 rfl rfl rfl rfl rfl rfl rfl
theorem d105_37 : decode (ab_C 105) 37 = .ok (.aload_n 0, 1) := by decide +kernel
theorem e105_37 {d : Nat} {l1 l2 : Option Value} {x : Nat} {σ : ab_St} {Q : Option Value → ab_St → Prop} : Ev d 105 37 [some (.ref x), l1, l2] [] σ Q = Ev d 105 38 [some (.ref x), l1, l2] [.ref x] σ Q := ev_A1 d105_37 rfl
theorem d105_38 : decode (ab_C 105) 38 = .ok (.dup, 1) := by decide +kernel
theorem e105_38 {d : Nat} {l0 l1 l2 : Option Value} {s0 : Nat} {σ : ab_St} {Q : Option Value → ab_St → Prop} : Ev d 105 38 [l0, l1, l2] [.ref s0] σ Q = Ev d 105 39 [l0, l1, l2] [.ref s0, .ref s0] σ Q := ev_A1 d105_38 rfl
theorem d105_39 : decode (ab_C 105) 39 = .ok (.getfield 97, 3) := by decide +kernel
theorem e105_39 {d : Nat} {l0 l1 l2 : Option Value} {s0 : Nat} {s1 : Nat} {σ : ab_St} {Q : Option Value → ab_St → Prop} : Ev d 105 39 [l0, l1, l2] [.ref s0, .ref s1] σ Q = (ab_k s0 = 10 ∧ Ev d 105 42 [l0, l1, l2] [.int (σ.1 s0 3), .ref s1] σ Q) := ev_Hc (c := ab_k s0 = 10) d105_39 rfl rfl rfl rfl rfl rfl rfl rfl
theorem d105_42 : decode (ab_C 105) 42 = .ok (.iconst 1, 1) := by decide +kernel
theorem e105_42 {d : Nat} {l0 l1 l2 : Option Value} {s0 : Int32} {s1 : Nat} {σ : ab_St} {Q : Option Value → ab_St → Prop} : Ev d 105 42 [l0, l1, l2] [.int s0, .ref s1] σ Q = Ev d 105 43 [l0, l1, l2] [.int 1, .int s0, .ref s1] σ Q := ev_A1 d105_42 rfl
theorem d105_43 : decode (ab_C 105) 43 = .ok (.iadd, 1) := by decide +kernel
theorem e105_43 {d : Nat} {l0 l1 l2 : Option Value} {s0 : Int32} {s1 : Int32} {s2 : Nat} {σ : ab_St} {Q : Option Value → ab_St → Prop} : Ev d 105 43 [l0, l1, l2] [.int s0, .int s1, .ref s2] σ Q = Ev d 105 44 [l0, l1, l2] [.int (s1 + s0), .ref s2] σ Q := ev_A2 d105_43 rfl rfl
theorem d105_44 : decode (ab_C 105) 44 = .ok (.putfield 97, 3) := by decide +kernel
theorem e105_44 {d : Nat} {l0 l1 l2 : Option Value} {s0 : Int32} {s1 : Nat} {σ : ab_St} {Q : Option Value → ab_St → Prop} : Ev d 105 44 [l0, l1, l2] [.int s0, .ref s1] σ Q = (ab_k s1 = 10 ∧ Ev d 105 47 [l0, l1, l2] [] (ab_wI σ s1 (upd (σ.1 s1) 3 s0)) Q) := ev_Hc (c := ab_k s1 = 10) d105_44 rfl rfl rfl rfl rfl rfl rfl rfl
theorem d105_47 : decode (ab_C 105) 47 = .ok (.aload_n 0, 1) := by decide +kernel
theorem e105_47 {d : Nat} {l1 l2 : Option Value} {x : Nat} {σ : ab_St} {Q : Option Value → ab_St → Prop} : Ev d 105 47 [some (.ref x), l1, l2] [] σ Q = Ev d 105 48 [some (.ref x), l1, l2] [.ref x] σ Q := ev_A1 d105_47 rfl
theorem d105_48 : decode (ab_C 105) 48 = .ok (.getfield 7, 3) := by decide +kernel
theorem e105_48 {d : Nat} {l0 l1 l2 : Option Value} {s0 : Nat} {σ : ab_St} {Q : Option Value → ab_St → Prop} : Ev d 105 48 [l0, l1, l2] [.ref s0] σ Q = (ab_k s0 = 10 ∧ Ev d 105 51 [l0, l1, l2] [.ref (ab_r s0 1)] σ Q) := ev_Hc (c := ab_k s0 = 10) d105_48 rfl rfl rfl rfl rfl rfl rfl rfl
theorem d105_51 : decode (ab_C 105) 51 = .ok (.aload_n 0, 1) := by decide +kernel
theorem e105_51 {d : Nat} {l1 l2 : Option Value} {x : Nat} {s0 : Nat} {σ : ab_St} {Q : Option Value → ab_St → Prop} : Ev d 105 51 [some (.ref x), l1, l2] [.ref s0] σ Q = Ev d 105 52 [some (.ref x), l1, l2] [.ref x, .ref s0] σ Q := ev_A1 d105_51 rfl
theorem d105_52 : decode (ab_C 105) 52 = .ok (.getfield 97, 3) := by decide +kernel
theorem e105_52 {d : Nat} {l0 l1 l2 : Option Value} {s0 : Nat} {s1 : Nat} {σ : ab_St} {Q : Option Value → ab_St → Prop} : Ev d 105 52 [l0, l1, l2] [.ref s0, .ref s1] σ Q = (ab_k s0 = 10 ∧ Ev d 105 55 [l0, l1, l2] [.int (σ.1 s0 3), .ref s1] σ Q) := ev_Hc (c := ab_k s0 = 10) d105_52 rfl rfl rfl rfl rfl rfl rfl rfl
theorem d105_55 : decode (ab_C 105) 55 = .ok (.iconst 1, 1) := by decide +kernel
theorem e105_55 {d : Nat} {l0 l1 l2 : Option Value} {s0 : Int32} {s1 : Nat} {σ : ab_St} {Q : Option Value → ab_St → Prop} : Ev d 105 55 [l0, l1, l2] [.int s0, .ref s1] σ Q = Ev d 105 56 [l0, l1, l2] [.int 1, .int s0, .ref s1] σ Q := ev_A1 d105_55 rfl
theorem d105_56 : decode (ab_C 105) 56 = .ok (.isub, 1) := by decide +kernel
theorem e105_56 {d : Nat} {l0 l1 l2 : Option Value} {s0 : Int32} {s1 : Int32} {s2 : Nat} {σ : ab_St} {Q : Option Value → ab_St → Prop} : Ev d 105 56 [l0, l1, l2] [.int s0, .int s1, .ref s2] σ Q = Ev d 105 57 [l0, l1, l2] [.int (s1 - s0), .ref s2] σ Q := ev_A2 d105_56 rfl rfl
theorem d105_57 : decode (ab_C 105) 57 = .ok (.iaload, 1) := by decide +kernel
theorem e105_57 {d : Nat} {l0 l1 l2 : Option Value} {s0 : Int32} {s1 : Nat} {σ : ab_St} {Q : Option Value → ab_St → Prop} : Ev d 105 57 [l0, l1, l2] [.int s0, .ref s1] σ Q = ((ab_k s1 = 100 ∧ ab_in s0 (ab_n s1)) ∧ Ev d 105 58 [l0, l1, l2] [.int (σ.1 s1 s0.toNatClampNeg)] σ Q) := ev_Hc (c := ab_k s1 = 100 ∧ ab_in s0 (ab_n s1)) d105_57 rfl rfl rfl rfl rfl rfl rfl rfl
theorem d105_58 : decode (ab_C 105) 58 = .ok (.bipush 48, 2) := by decide +kernel
theorem e105_58 {d : Nat} {l0 l1 l2 : Option Value} {s0 : Int32} {σ : ab_St} {Q : Option Value → ab_St → Prop} : Ev d 105 58 [l0, l1, l2] [.int s0] σ Q = Ev d 105 60 [l0, l1, l2] [.int 48, .int s0] σ Q := ev_A1 d105_58 rfl
theorem d105_60 : decode (ab_C 105) 60 = .ok (.isub, 1) := by decide +kernel
theorem e105_60 {d : Nat} {l0 l1 l2 : Option Value} {s0 : Int32} {s1 : Int32} {σ : ab_St} {Q : Option Value → ab_St → Prop} : Ev d 105 60 [l0, l1, l2] [.int s0, .int s1] σ Q = Ev d 105 61 [l0, l1, l2] [.int (s1 - s0)] σ Q := ev_A2 d105_60 rfl rfl
theorem d105_61 : decode (ab_C 105) 61 = .ok (.ireturn, 1) := by decide +kernel
theorem e105_61 {d : Nat} {l0 l1 l2 : Option Value} {s0 : Int32} {σ : ab_St} {Q : Option Value → ab_St → Prop} : Ev d 105 61 [l0, l1, l2] [.int s0] σ Q = Q (some (.int s0)) σ := ev_E d105_61 rfl rfl rfl rfl rfl rfl rfl
/-! SaidLeastModel.readPart()Z -/
theorem d106_0 : decode (ab_C 106) 0 = .ok (.aload_n 0, 1) := by decide +kernel
theorem e106_0 {d : Nat} {l1 : Option Value} {x : Nat} {σ : ab_St} {Q : Option Value → ab_St → Prop} : Ev d 106 0 [some (.ref x), l1] [] σ Q = Ev d 106 1 [some (.ref x), l1] [.ref x] σ Q := ev_A1 d106_0 rfl
theorem d106_1 : decode (ab_C 106) 1 = .ok (.getfield 7, 3) := by decide +kernel
theorem e106_1 {d : Nat} {l0 l1 : Option Value} {s0 : Nat} {σ : ab_St} {Q : Option Value → ab_St → Prop} : Ev d 106 1 [l0, l1] [.ref s0] σ Q = (ab_k s0 = 10 ∧ Ev d 106 4 [l0, l1] [.ref (ab_r s0 1)] σ Q) := ev_Hc (c := ab_k s0 = 10) d106_1 rfl rfl rfl rfl rfl rfl rfl rfl
theorem d106_4 : decode (ab_C 106) 4 = .ok (.aload_n 0, 1) := by decide +kernel
theorem e106_4 {d : Nat} {l1 : Option Value} {x : Nat} {s0 : Nat} {σ : ab_St} {Q : Option Value → ab_St → Prop} : Ev d 106 4 [some (.ref x), l1] [.ref s0] σ Q = Ev d 106 5 [some (.ref x), l1] [.ref x, .ref s0] σ Q := ev_A1 d106_4 rfl
theorem d106_5 : decode (ab_C 106) 5 = .ok (.getfield 97, 3) := by decide +kernel
theorem e106_5 {d : Nat} {l0 l1 : Option Value} {s0 : Nat} {s1 : Nat} {σ : ab_St} {Q : Option Value → ab_St → Prop} : Ev d 106 5 [l0, l1] [.ref s0, .ref s1] σ Q = (ab_k s0 = 10 ∧ Ev d 106 8 [l0, l1] [.int (σ.1 s0 3), .ref s1] σ Q) := ev_Hc (c := ab_k s0 = 10) d106_5 rfl rfl rfl rfl rfl rfl rfl rfl
theorem d106_8 : decode (ab_C 106) 8 = .ok (.iaload, 1) := by decide +kernel
theorem e106_8 {d : Nat} {l0 l1 : Option Value} {s0 : Int32} {s1 : Nat} {σ : ab_St} {Q : Option Value → ab_St → Prop} : Ev d 106 8 [l0, l1] [.int s0, .ref s1] σ Q = ((ab_k s1 = 100 ∧ ab_in s0 (ab_n s1)) ∧ Ev d 106 9 [l0, l1] [.int (σ.1 s1 s0.toNatClampNeg)] σ Q) := ev_Hc (c := ab_k s1 = 100 ∧ ab_in s0 (ab_n s1)) d106_8 rfl rfl rfl rfl rfl rfl rfl rfl
theorem d106_9 : decode (ab_C 106) 9 = .ok (.istore_n 1, 1) := by decide +kernel
theorem e106_9 {d : Nat} {l0 l1 : Option Value} {s0 : Int32} {σ : ab_St} {Q : Option Value → ab_St → Prop} : Ev d 106 9 [l0, l1] [.int s0] σ Q = Ev d 106 10 [l0, some (.int s0)] [] σ Q := ev_S d106_9 rfl rfl rfl rfl
theorem d106_10 : decode (ab_C 106) 10 = .ok (.iload_n 1, 1) := by decide +kernel
theorem e106_10 {d : Nat} {l0 : Option Value} {x : Int32} {σ : ab_St} {Q : Option Value → ab_St → Prop} : Ev d 106 10 [l0, some (.int x)] [] σ Q = Ev d 106 11 [l0, some (.int x)] [.int x] σ Q := ev_A1 d106_10 rfl
theorem d106_11 : decode (ab_C 106) 11 = .ok (.bipush 80, 2) := by decide +kernel
theorem e106_11 {d : Nat} {l0 l1 : Option Value} {s0 : Int32} {σ : ab_St} {Q : Option Value → ab_St → Prop} : Ev d 106 11 [l0, l1] [.int s0] σ Q = Ev d 106 13 [l0, l1] [.int 80, .int s0] σ Q := ev_A1 d106_11 rfl
theorem d106_13 : decode (ab_C 106) 13 = .ok (.if_icmp .eq 9, 3) := by decide +kernel
theorem e106_13 {d : Nat} {l0 l1 : Option Value} {s0 : Int32} {s1 : Int32} {σ : ab_St} {Q : Option Value → ab_St → Prop} : Ev d 106 13 [l0, l1] [.int s0, .int s1] σ Q = if s1 = s0 then Ev d 106 22 [l0, l1] [] σ Q else Ev d 106 16 [l0, l1] [] σ Q := ev_B (c := s1 = s0) d106_13 rfl rfl rfl rfl rfl
theorem d106_16 : decode (ab_C 106) 16 = .ok (.iload_n 1, 1) := by decide +kernel
theorem e106_16 {d : Nat} {l0 : Option Value} {x : Int32} {σ : ab_St} {Q : Option Value → ab_St → Prop} : Ev d 106 16 [l0, some (.int x)] [] σ Q = Ev d 106 17 [l0, some (.int x)] [.int x] σ Q := ev_A1 d106_16 rfl
theorem d106_17 : decode (ab_C 106) 17 = .ok (.bipush 65, 2) := by decide +kernel
theorem e106_17 {d : Nat} {l0 l1 : Option Value} {s0 : Int32} {σ : ab_St} {Q : Option Value → ab_St → Prop} : Ev d 106 17 [l0, l1] [.int s0] σ Q = Ev d 106 19 [l0, l1] [.int 65, .int s0] σ Q := ev_A1 d106_17 rfl
theorem d106_19 : decode (ab_C 106) 19 = .ok (.if_icmp .ne 38, 3) := by decide +kernel
theorem e106_19 {d : Nat} {l0 l1 : Option Value} {s0 : Int32} {s1 : Int32} {σ : ab_St} {Q : Option Value → ab_St → Prop} : Ev d 106 19 [l0, l1] [.int s0, .int s1] σ Q = if s1 = s0 then Ev d 106 22 [l0, l1] [] σ Q else Ev d 106 57 [l0, l1] [] σ Q := ev_B (c := s1 = s0) d106_19 rfl rfl rfl rfl rfl
theorem d106_22 : decode (ab_C 106) 22 = .ok (.aload_n 0, 1) := by decide +kernel
theorem e106_22 {d : Nat} {l1 : Option Value} {x : Nat} {σ : ab_St} {Q : Option Value → ab_St → Prop} : Ev d 106 22 [some (.ref x), l1] [] σ Q = Ev d 106 23 [some (.ref x), l1] [.ref x] σ Q := ev_A1 d106_22 rfl
theorem d106_23 : decode (ab_C 106) 23 = .ok (.getfield 104, 3) := by decide +kernel
theorem e106_23 {d : Nat} {l0 l1 : Option Value} {s0 : Nat} {σ : ab_St} {Q : Option Value → ab_St → Prop} : Ev d 106 23 [l0, l1] [.ref s0] σ Q = (ab_k s0 = 10 ∧ Ev d 106 26 [l0, l1] [.int (σ.1 s0 16)] σ Q) := ev_Hc (c := ab_k s0 = 10) d106_23 rfl rfl rfl rfl rfl rfl rfl rfl
theorem d106_26 : decode (ab_C 106) 26 = .ok (.bipush 6, 2) := by decide +kernel
theorem e106_26 {d : Nat} {l0 l1 : Option Value} {s0 : Int32} {σ : ab_St} {Q : Option Value → ab_St → Prop} : Ev d 106 26 [l0, l1] [.int s0] σ Q = Ev d 106 28 [l0, l1] [.int 6, .int s0] σ Q := ev_A1 d106_26 rfl
theorem d106_28 : decode (ab_C 106) 28 = .ok (.if_icmp .ge 29, 3) := by decide +kernel
theorem e106_28 {d : Nat} {l0 l1 : Option Value} {s0 : Int32} {s1 : Int32} {σ : ab_St} {Q : Option Value → ab_St → Prop} : Ev d 106 28 [l0, l1] [.int s0, .int s1] σ Q = if s0 ≤ s1 then Ev d 106 57 [l0, l1] [] σ Q else Ev d 106 31 [l0, l1] [] σ Q := ev_B (c := s0 ≤ s1) d106_28 rfl rfl rfl rfl rfl
theorem d106_31 : decode (ab_C 106) 31 = .ok (.aload_n 0, 1) := by decide +kernel
theorem e106_31 {d : Nat} {l1 : Option Value} {x : Nat} {σ : ab_St} {Q : Option Value → ab_St → Prop} : Ev d 106 31 [some (.ref x), l1] [] σ Q = Ev d 106 32 [some (.ref x), l1] [.ref x] σ Q := ev_A1 d106_31 rfl
theorem d106_32 : decode (ab_C 106) 32 = .ok (.dup, 1) := by decide +kernel
theorem e106_32 {d : Nat} {l0 l1 : Option Value} {s0 : Nat} {σ : ab_St} {Q : Option Value → ab_St → Prop} : Ev d 106 32 [l0, l1] [.ref s0] σ Q = Ev d 106 33 [l0, l1] [.ref s0, .ref s0] σ Q := ev_A1 d106_32 rfl
theorem d106_33 : decode (ab_C 106) 33 = .ok (.getfield 97, 3) := by decide +kernel
theorem e106_33 {d : Nat} {l0 l1 : Option Value} {s0 : Nat} {s1 : Nat} {σ : ab_St} {Q : Option Value → ab_St → Prop} : Ev d 106 33 [l0, l1] [.ref s0, .ref s1] σ Q = (ab_k s0 = 10 ∧ Ev d 106 36 [l0, l1] [.int (σ.1 s0 3), .ref s1] σ Q) := ev_Hc (c := ab_k s0 = 10) d106_33 rfl rfl rfl rfl rfl rfl rfl rfl
theorem d106_36 : decode (ab_C 106) 36 = .ok (.iconst 1, 1) := by decide +kernel
theorem e106_36 {d : Nat} {l0 l1 : Option Value} {s0 : Int32} {s1 : Nat} {σ : ab_St} {Q : Option Value → ab_St → Prop} : Ev d 106 36 [l0, l1] [.int s0, .ref s1] σ Q = Ev d 106 37 [l0, l1] [.int 1, .int s0, .ref s1] σ Q := ev_A1 d106_36 rfl
theorem d106_37 : decode (ab_C 106) 37 = .ok (.iadd, 1) := by decide +kernel
theorem e106_37 {d : Nat} {l0 l1 : Option Value} {s0 : Int32} {s1 : Int32} {s2 : Nat} {σ : ab_St} {Q : Option Value → ab_St → Prop} : Ev d 106 37 [l0, l1] [.int s0, .int s1, .ref s2] σ Q = Ev d 106 38 [l0, l1] [.int (s1 + s0), .ref s2] σ Q := ev_A2 d106_37 rfl rfl
theorem d106_38 : decode (ab_C 106) 38 = .ok (.putfield 97, 3) := by decide +kernel
theorem e106_38 {d : Nat} {l0 l1 : Option Value} {s0 : Int32} {s1 : Nat} {σ : ab_St} {Q : Option Value → ab_St → Prop} : Ev d 106 38 [l0, l1] [.int s0, .ref s1] σ Q = (ab_k s1 = 10 ∧ Ev d 106 41 [l0, l1] [] (ab_wI σ s1 (upd (σ.1 s1) 3 s0)) Q) := ev_Hc (c := ab_k s1 = 10) d106_38 rfl rfl rfl rfl rfl rfl rfl rfl
theorem d106_41 : decode (ab_C 106) 41 = .ok (.aload_n 0, 1) := by decide +kernel
theorem e106_41 {d : Nat} {l1 : Option Value} {x : Nat} {σ : ab_St} {Q : Option Value → ab_St → Prop} : Ev d 106 41 [some (.ref x), l1] [] σ Q = Ev d 106 42 [some (.ref x), l1] [.ref x] σ Q := ev_A1 d106_41 rfl
theorem d106_42 : decode (ab_C 106) 42 = .ok (.iload_n 1, 1) := by decide +kernel
theorem e106_42 {d : Nat} {l0 : Option Value} {x : Int32} {s0 : Nat} {σ : ab_St} {Q : Option Value → ab_St → Prop} : Ev d 106 42 [l0, some (.int x)] [.ref s0] σ Q = Ev d 106 43 [l0, some (.int x)] [.int x, .ref s0] σ Q := ev_A1 d106_42 rfl
theorem d106_43 : decode (ab_C 106) 43 = .ok (.bipush 80, 2) := by decide +kernel
theorem e106_43 {d : Nat} {l0 l1 : Option Value} {s0 : Int32} {s1 : Nat} {σ : ab_St} {Q : Option Value → ab_St → Prop} : Ev d 106 43 [l0, l1] [.int s0, .ref s1] σ Q = Ev d 106 45 [l0, l1] [.int 80, .int s0, .ref s1] σ Q := ev_A1 d106_43 rfl
theorem d106_45 : decode (ab_C 106) 45 = .ok (.if_icmp .ne 7, 3) := by decide +kernel
theorem e106_45 {d : Nat} {l0 l1 : Option Value} {s0 : Int32} {s1 : Int32} {s2 : Nat} {σ : ab_St} {Q : Option Value → ab_St → Prop} : Ev d 106 45 [l0, l1] [.int s0, .int s1, .ref s2] σ Q = if s1 = s0 then Ev d 106 48 [l0, l1] [.ref s2] σ Q else Ev d 106 52 [l0, l1] [.ref s2] σ Q := ev_B (c := s1 = s0) d106_45 rfl rfl rfl rfl rfl
theorem d106_48 : decode (ab_C 106) 48 = .ok (.iconst 1, 1) := by decide +kernel
theorem e106_48 {d : Nat} {l0 l1 : Option Value} {s0 : Nat} {σ : ab_St} {Q : Option Value → ab_St → Prop} : Ev d 106 48 [l0, l1] [.ref s0] σ Q = Ev d 106 49 [l0, l1] [.int 1, .ref s0] σ Q := ev_A1 d106_48 rfl
theorem d106_49 : decode (ab_C 106) 49 = .ok (.goto 4, 3) := by decide +kernel
theorem e106_49 {d : Nat} {l0 l1 : Option Value} {s0 : Int32} {s1 : Nat} {σ : ab_St} {Q : Option Value → ab_St → Prop} : Ev d 106 49 [l0, l1] [.int s0, .ref s1] σ Q = Ev d 106 53 [l0, l1] [.int s0, .ref s1] σ Q := ev_J d106_49 rfl rfl rfl rfl rfl
theorem d106_52 : decode (ab_C 106) 52 = .ok (.iconst 0, 1) := by decide +kernel
theorem e106_52 {d : Nat} {l0 l1 : Option Value} {s0 : Nat} {σ : ab_St} {Q : Option Value → ab_St → Prop} : Ev d 106 52 [l0, l1] [.ref s0] σ Q = Ev d 106 53 [l0, l1] [.int 0, .ref s0] σ Q := ev_A1 d106_52 rfl
theorem d106_53 : decode (ab_C 106) 53 = .ok (.invokevirtual 117, 3) := by decide +kernel
theorem e106_53 {d : Nat} {l0 l1 : Option Value} {s0 : Int32} {s1 : Nat} {σ : ab_St} {Q : Option Value → ab_St → Prop} : Ev (d + 1) 106 53 [l0, l1] [.int s0, .ref s1] σ Q = (ab_k s1 = 10 ∧ Ev d 107 0 [some (.ref s1), some (.int s0), none, none] [] σ (fun r σ2 => Ev (d + 1) 106 56 [l0, l1] (r.toList ++ []) σ2 Q)) := ev_KV (b := s1) (ls := [l0, l1]) (st := [.int s0, .ref s1]) (as := [.int s0]) (rest := []) d106_53 rfl rfl rfl (Nat.le_of_ble_eq_true rfl) (Nat.le_of_ble_eq_true rfl) (Nat.le_of_ble_eq_true rfl) rfl rfl rfl rfl rfl rfl rfl
theorem d106_56 : decode (ab_C 106) 56 = .ok (.ireturn, 1) := by decide +kernel
theorem e106_56 {d : Nat} {l0 l1 : Option Value} {s0 : Int32} {σ : ab_St} {Q : Option Value → ab_St → Prop} : Ev d 106 56 [l0, l1] [.int s0] σ Q = ((s0 = 0 ∨ s0 = 1) ∧ Q (some (.int s0)) σ) := ev_Z d106_56 rfl
theorem d106_57 : decode (ab_C 106) 57 = .ok (.iload_n 1, 1) := by decide +kernel
theorem e106_57 {d : Nat} {l0 : Option Value} {x : Int32} {σ : ab_St} {Q : Option Value → ab_St → Prop} : Ev d 106 57 [l0, some (.int x)] [] σ Q = Ev d 106 58 [l0, some (.int x)] [.int x] σ Q := ev_A1 d106_57 rfl
theorem d106_58 : decode (ab_C 106) 58 = .ok (.bipush 83, 2) := by decide +kernel
theorem e106_58 {d : Nat} {l0 l1 : Option Value} {s0 : Int32} {σ : ab_St} {Q : Option Value → ab_St → Prop} : Ev d 106 58 [l0, l1] [.int s0] σ Q = Ev d 106 60 [l0, l1] [.int 83, .int s0] σ Q := ev_A1 d106_58 rfl
theorem d106_60 : decode (ab_C 106) 60 = .ok (.if_icmp .ne 34, 3) := by decide +kernel
theorem e106_60 {d : Nat} {l0 l1 : Option Value} {s0 : Int32} {s1 : Int32} {σ : ab_St} {Q : Option Value → ab_St → Prop} : Ev d 106 60 [l0, l1] [.int s0, .int s1] σ Q = if s1 = s0 then Ev d 106 63 [l0, l1] [] σ Q else Ev d 106 94 [l0, l1] [] σ Q := ev_B (c := s1 = s0) d106_60 rfl rfl rfl rfl rfl
theorem d106_63 : decode (ab_C 106) 63 = .ok (.aload_n 0, 1) := by decide +kernel
theorem e106_63 {d : Nat} {l1 : Option Value} {x : Nat} {σ : ab_St} {Q : Option Value → ab_St → Prop} : Ev d 106 63 [some (.ref x), l1] [] σ Q = Ev d 106 64 [some (.ref x), l1] [.ref x] σ Q := ev_A1 d106_63 rfl
theorem d106_64 : decode (ab_C 106) 64 = .ok (.getfield 110, 3) := by decide +kernel
theorem e106_64 {d : Nat} {l0 l1 : Option Value} {s0 : Nat} {σ : ab_St} {Q : Option Value → ab_St → Prop} : Ev d 106 64 [l0, l1] [.ref s0] σ Q = (ab_k s0 = 10 ∧ Ev d 106 67 [l0, l1] [.int (σ.1 s0 19)] σ Q) := ev_Hc (c := ab_k s0 = 10) d106_64 rfl rfl rfl rfl rfl rfl rfl rfl
theorem d106_67 : decode (ab_C 106) 67 = .ok (.bipush 8, 2) := by decide +kernel
theorem e106_67 {d : Nat} {l0 l1 : Option Value} {s0 : Int32} {σ : ab_St} {Q : Option Value → ab_St → Prop} : Ev d 106 67 [l0, l1] [.int s0] σ Q = Ev d 106 69 [l0, l1] [.int 8, .int s0] σ Q := ev_A1 d106_67 rfl
theorem d106_69 : decode (ab_C 106) 69 = .ok (.if_icmp .ge 25, 3) := by decide +kernel
theorem e106_69 {d : Nat} {l0 l1 : Option Value} {s0 : Int32} {s1 : Int32} {σ : ab_St} {Q : Option Value → ab_St → Prop} : Ev d 106 69 [l0, l1] [.int s0, .int s1] σ Q = if s0 ≤ s1 then Ev d 106 94 [l0, l1] [] σ Q else Ev d 106 72 [l0, l1] [] σ Q := ev_B (c := s0 ≤ s1) d106_69 rfl rfl rfl rfl rfl
theorem d106_72 : decode (ab_C 106) 72 = .ok (.aload_n 0, 1) := by decide +kernel
theorem e106_72 {d : Nat} {l1 : Option Value} {x : Nat} {σ : ab_St} {Q : Option Value → ab_St → Prop} : Ev d 106 72 [some (.ref x), l1] [] σ Q = Ev d 106 73 [some (.ref x), l1] [.ref x] σ Q := ev_A1 d106_72 rfl
theorem d106_73 : decode (ab_C 106) 73 = .ok (.getfield 104, 3) := by decide +kernel
theorem e106_73 {d : Nat} {l0 l1 : Option Value} {s0 : Nat} {σ : ab_St} {Q : Option Value → ab_St → Prop} : Ev d 106 73 [l0, l1] [.ref s0] σ Q = (ab_k s0 = 10 ∧ Ev d 106 76 [l0, l1] [.int (σ.1 s0 16)] σ Q) := ev_Hc (c := ab_k s0 = 10) d106_73 rfl rfl rfl rfl rfl rfl rfl rfl
theorem d106_76 : decode (ab_C 106) 76 = .ok (.ifCond .le 18, 3) := by decide +kernel
theorem e106_76 {d : Nat} {l0 l1 : Option Value} {s0 : Int32} {σ : ab_St} {Q : Option Value → ab_St → Prop} : Ev d 106 76 [l0, l1] [.int s0] σ Q = if s0 ≤ 0 then Ev d 106 94 [l0, l1] [] σ Q else Ev d 106 79 [l0, l1] [] σ Q := ev_B (c := s0 ≤ 0) d106_76 rfl rfl rfl rfl rfl
theorem d106_79 : decode (ab_C 106) 79 = .ok (.aload_n 0, 1) := by decide +kernel
theorem e106_79 {d : Nat} {l1 : Option Value} {x : Nat} {σ : ab_St} {Q : Option Value → ab_St → Prop} : Ev d 106 79 [some (.ref x), l1] [] σ Q = Ev d 106 80 [some (.ref x), l1] [.ref x] σ Q := ev_A1 d106_79 rfl
theorem d106_80 : decode (ab_C 106) 80 = .ok (.dup, 1) := by decide +kernel
theorem e106_80 {d : Nat} {l0 l1 : Option Value} {s0 : Nat} {σ : ab_St} {Q : Option Value → ab_St → Prop} : Ev d 106 80 [l0, l1] [.ref s0] σ Q = Ev d 106 81 [l0, l1] [.ref s0, .ref s0] σ Q := ev_A1 d106_80 rfl
theorem d106_81 : decode (ab_C 106) 81 = .ok (.getfield 97, 3) := by decide +kernel
theorem e106_81 {d : Nat} {l0 l1 : Option Value} {s0 : Nat} {s1 : Nat} {σ : ab_St} {Q : Option Value → ab_St → Prop} : Ev d 106 81 [l0, l1] [.ref s0, .ref s1] σ Q = (ab_k s0 = 10 ∧ Ev d 106 84 [l0, l1] [.int (σ.1 s0 3), .ref s1] σ Q) := ev_Hc (c := ab_k s0 = 10) d106_81 rfl rfl rfl rfl rfl rfl rfl rfl
theorem d106_84 : decode (ab_C 106) 84 = .ok (.iconst 1, 1) := by decide +kernel
theorem e106_84 {d : Nat} {l0 l1 : Option Value} {s0 : Int32} {s1 : Nat} {σ : ab_St} {Q : Option Value → ab_St → Prop} : Ev d 106 84 [l0, l1] [.int s0, .ref s1] σ Q = Ev d 106 85 [l0, l1] [.int 1, .int s0, .ref s1] σ Q := ev_A1 d106_84 rfl
theorem d106_85 : decode (ab_C 106) 85 = .ok (.iadd, 1) := by decide +kernel
theorem e106_85 {d : Nat} {l0 l1 : Option Value} {s0 : Int32} {s1 : Int32} {s2 : Nat} {σ : ab_St} {Q : Option Value → ab_St → Prop} : Ev d 106 85 [l0, l1] [.int s0, .int s1, .ref s2] σ Q = Ev d 106 86 [l0, l1] [.int (s1 + s0), .ref s2] σ Q := ev_A2 d106_85 rfl rfl
theorem d106_86 : decode (ab_C 106) 86 = .ok (.putfield 97, 3) := by decide +kernel
theorem e106_86 {d : Nat} {l0 l1 : Option Value} {s0 : Int32} {s1 : Nat} {σ : ab_St} {Q : Option Value → ab_St → Prop} : Ev d 106 86 [l0, l1] [.int s0, .ref s1] σ Q = (ab_k s1 = 10 ∧ Ev d 106 89 [l0, l1] [] (ab_wI σ s1 (upd (σ.1 s1) 3 s0)) Q) := ev_Hc (c := ab_k s1 = 10) d106_86 rfl rfl rfl rfl rfl rfl rfl rfl
theorem d106_89 : decode (ab_C 106) 89 = .ok (.aload_n 0, 1) := by decide +kernel
theorem e106_89 {d : Nat} {l1 : Option Value} {x : Nat} {σ : ab_St} {Q : Option Value → ab_St → Prop} : Ev d 106 89 [some (.ref x), l1] [] σ Q = Ev d 106 90 [some (.ref x), l1] [.ref x] σ Q := ev_A1 d106_89 rfl
theorem d106_90 : decode (ab_C 106) 90 = .ok (.invokevirtual 121, 3) := by decide +kernel
theorem e106_90 {d : Nat} {l0 l1 : Option Value} {s0 : Nat} {σ : ab_St} {Q : Option Value → ab_St → Prop} : Ev (d + 1) 106 90 [l0, l1] [.ref s0] σ Q = (ab_k s0 = 10 ∧ Ev d 108 0 [some (.ref s0), none, none, none, none] [] σ (fun r σ2 => Ev (d + 1) 106 93 [l0, l1] (r.toList ++ []) σ2 Q)) := ev_KV (b := s0) (ls := [l0, l1]) (st := [.ref s0]) (as := []) (rest := []) d106_90 rfl rfl rfl (Nat.le_of_ble_eq_true rfl) (Nat.le_of_ble_eq_true rfl) (Nat.le_of_ble_eq_true rfl) rfl rfl rfl rfl rfl rfl rfl
theorem d106_93 : decode (ab_C 106) 93 = .ok (.ireturn, 1) := by decide +kernel
theorem e106_93 {d : Nat} {l0 l1 : Option Value} {s0 : Int32} {σ : ab_St} {Q : Option Value → ab_St → Prop} : Ev d 106 93 [l0, l1] [.int s0] σ Q = ((s0 = 0 ∨ s0 = 1) ∧ Q (some (.int s0)) σ) := ev_Z d106_93 rfl
theorem d106_94 : decode (ab_C 106) 94 = .ok (.iconst 0, 1) := by decide +kernel
theorem e106_94 {d : Nat} {l0 l1 : Option Value} {σ : ab_St} {Q : Option Value → ab_St → Prop} : Ev d 106 94 [l0, l1] [] σ Q = Ev d 106 95 [l0, l1] [.int 0] σ Q := ev_A1 d106_94 rfl
theorem d106_95 : decode (ab_C 106) 95 = .ok (.ireturn, 1) := by decide +kernel
theorem e106_95 {d : Nat} {l0 l1 : Option Value} {s0 : Int32} {σ : ab_St} {Q : Option Value → ab_St → Prop} : Ev d 106 95 [l0, l1] [.int s0] σ Q = ((s0 = 0 ∨ s0 = 1) ∧ Q (some (.int s0)) σ) := ev_Z d106_95 rfl
/-! SaidLeastModel.readPerson(Z)Z -/
theorem d107_0 : decode (ab_C 107) 0 = .ok (.aload_n 0, 1) := by decide +kernel
theorem e107_0 {d : Nat} {l1 l2 l3 : Option Value} {x : Nat} {σ : ab_St} {Q : Option Value → ab_St → Prop} : Ev d 107 0 [some (.ref x), l1, l2, l3] [] σ Q = Ev d 107 1 [some (.ref x), l1, l2, l3] [.ref x] σ Q := ev_A1 d107_0 rfl
theorem d107_1 : decode (ab_C 107) 1 = .ok (.iconst 0, 1) := by decide +kernel
theorem e107_1 {d : Nat} {l0 l1 l2 l3 : Option Value} {s0 : Nat} {σ : ab_St} {Q : Option Value → ab_St → Prop} : Ev d 107 1 [l0, l1, l2, l3] [.ref s0] σ Q = Ev d 107 2 [l0, l1, l2, l3] [.int 0, .ref s0] σ Q := ev_A1 d107_1 rfl
theorem d107_2 : decode (ab_C 107) 2 = .ok (.bipush 9, 2) := by decide +kernel
theorem e107_2 {d : Nat} {l0 l1 l2 l3 : Option Value} {s0 : Int32} {s1 : Nat} {σ : ab_St} {Q : Option Value → ab_St → Prop} : Ev d 107 2 [l0, l1, l2, l3] [.int s0, .ref s1] σ Q = Ev d 107 4 [l0, l1, l2, l3] [.int 9, .int s0, .ref s1] σ Q := ev_A1 d107_2 rfl
theorem d107_4 : decode (ab_C 107) 4 = .ok (.invokevirtual 100, 3) := by decide +kernel
theorem e107_4 {d : Nat} {l0 l1 l2 l3 : Option Value} {s0 : Int32} {s1 : Int32} {s2 : Nat} {σ : ab_St} {Q : Option Value → ab_St → Prop} : Ev (d + 1) 107 4 [l0, l1, l2, l3] [.int s0, .int s1, .ref s2] σ Q = (ab_k s2 = 10 ∧ Ev d 105 0 [some (.ref s2), some (.int s1), some (.int s0)] [] σ (fun r σ2 => Ev (d + 1) 107 7 [l0, l1, l2, l3] (r.toList ++ []) σ2 Q)) := ev_KV (b := s2) (ls := [l0, l1, l2, l3]) (st := [.int s0, .int s1, .ref s2]) (as := [.int s1, .int s0]) (rest := []) d107_4 rfl rfl rfl (Nat.le_of_ble_eq_true rfl) (Nat.le_of_ble_eq_true rfl) (Nat.le_of_ble_eq_true rfl) rfl rfl rfl rfl rfl rfl rfl
theorem d107_7 : decode (ab_C 107) 7 = .ok (.istore_n 2, 1) := by decide +kernel
theorem e107_7 {d : Nat} {l0 l1 l2 l3 : Option Value} {s0 : Int32} {σ : ab_St} {Q : Option Value → ab_St → Prop} : Ev d 107 7 [l0, l1, l2, l3] [.int s0] σ Q = Ev d 107 8 [l0, l1, some (.int s0), l3] [] σ Q := ev_S d107_7 rfl rfl rfl rfl
theorem d107_8 : decode (ab_C 107) 8 = .ok (.iload_n 2, 1) := by decide +kernel
theorem e107_8 {d : Nat} {l0 l1 l3 : Option Value} {x : Int32} {σ : ab_St} {Q : Option Value → ab_St → Prop} : Ev d 107 8 [l0, l1, some (.int x), l3] [] σ Q = Ev d 107 9 [l0, l1, some (.int x), l3] [.int x] σ Q := ev_A1 d107_8 rfl
theorem d107_9 : decode (ab_C 107) 9 = .ok (.bipush (-9), 2) := by decide +kernel
theorem e107_9 {d : Nat} {l0 l1 l2 l3 : Option Value} {s0 : Int32} {σ : ab_St} {Q : Option Value → ab_St → Prop} : Ev d 107 9 [l0, l1, l2, l3] [.int s0] σ Q = Ev d 107 11 [l0, l1, l2, l3] [.int (-9), .int s0] σ Q := ev_A1 d107_9 rfl
theorem d107_11 : decode (ab_C 107) 11 = .ok (.if_icmp .ne 8, 3) := by decide +kernel
theorem e107_11 {d : Nat} {l0 l1 l2 l3 : Option Value} {s0 : Int32} {s1 : Int32} {σ : ab_St} {Q : Option Value → ab_St → Prop} : Ev d 107 11 [l0, l1, l2, l3] [.int s0, .int s1] σ Q = if s1 = s0 then Ev d 107 14 [l0, l1, l2, l3] [] σ Q else Ev d 107 19 [l0, l1, l2, l3] [] σ Q := ev_B (c := s1 = s0) d107_11 rfl rfl rfl rfl rfl
theorem d107_14 : decode (ab_C 107) 14 = .ok (.bipush (-9), 2) := by decide +kernel
theorem e107_14 {d : Nat} {l0 l1 l2 l3 : Option Value} {σ : ab_St} {Q : Option Value → ab_St → Prop} : Ev d 107 14 [l0, l1, l2, l3] [] σ Q = Ev d 107 16 [l0, l1, l2, l3] [.int (-9)] σ Q := ev_A1 d107_14 rfl
theorem d107_16 : decode (ab_C 107) 16 = .ok (.goto 10, 3) := by decide +kernel
theorem e107_16 {d : Nat} {l0 l1 l2 l3 : Option Value} {s0 : Int32} {σ : ab_St} {Q : Option Value → ab_St → Prop} : Ev d 107 16 [l0, l1, l2, l3] [.int s0] σ Q = Ev d 107 26 [l0, l1, l2, l3] [.int s0] σ Q := ev_J d107_16 rfl rfl rfl rfl rfl
theorem d107_19 : decode (ab_C 107) 19 = .ok (.aload_n 0, 1) := by decide +kernel
theorem e107_19 {d : Nat} {l1 l2 l3 : Option Value} {x : Nat} {σ : ab_St} {Q : Option Value → ab_St → Prop} : Ev d 107 19 [some (.ref x), l1, l2, l3] [] σ Q = Ev d 107 20 [some (.ref x), l1, l2, l3] [.ref x] σ Q := ev_A1 d107_19 rfl
theorem d107_20 : decode (ab_C 107) 20 = .ok (.iconst 0, 1) := by decide +kernel
theorem e107_20 {d : Nat} {l0 l1 l2 l3 : Option Value} {s0 : Nat} {σ : ab_St} {Q : Option Value → ab_St → Prop} : Ev d 107 20 [l0, l1, l2, l3] [.ref s0] σ Q = Ev d 107 21 [l0, l1, l2, l3] [.int 0, .ref s0] σ Q := ev_A1 d107_20 rfl
theorem d107_21 : decode (ab_C 107) 21 = .ok (.bipush 9, 2) := by decide +kernel
theorem e107_21 {d : Nat} {l0 l1 l2 l3 : Option Value} {s0 : Int32} {s1 : Nat} {σ : ab_St} {Q : Option Value → ab_St → Prop} : Ev d 107 21 [l0, l1, l2, l3] [.int s0, .ref s1] σ Q = Ev d 107 23 [l0, l1, l2, l3] [.int 9, .int s0, .ref s1] σ Q := ev_A1 d107_21 rfl
theorem d107_23 : decode (ab_C 107) 23 = .ok (.invokevirtual 100, 3) := by decide +kernel
theorem e107_23 {d : Nat} {l0 l1 l2 l3 : Option Value} {s0 : Int32} {s1 : Int32} {s2 : Nat} {σ : ab_St} {Q : Option Value → ab_St → Prop} : Ev (d + 1) 107 23 [l0, l1, l2, l3] [.int s0, .int s1, .ref s2] σ Q = (ab_k s2 = 10 ∧ Ev d 105 0 [some (.ref s2), some (.int s1), some (.int s0)] [] σ (fun r σ2 => Ev (d + 1) 107 26 [l0, l1, l2, l3] (r.toList ++ []) σ2 Q)) := ev_KV (b := s2) (ls := [l0, l1, l2, l3]) (st := [.int s0, .int s1, .ref s2]) (as := [.int s1, .int s0]) (rest := []) d107_23 rfl rfl rfl (Nat.le_of_ble_eq_true rfl) (Nat.le_of_ble_eq_true rfl) (Nat.le_of_ble_eq_true rfl) rfl rfl rfl rfl rfl rfl rfl
theorem d107_26 : decode (ab_C 107) 26 = .ok (.istore_n 3, 1) := by decide +kernel
theorem e107_26 {d : Nat} {l0 l1 l2 l3 : Option Value} {s0 : Int32} {σ : ab_St} {Q : Option Value → ab_St → Prop} : Ev d 107 26 [l0, l1, l2, l3] [.int s0] σ Q = Ev d 107 27 [l0, l1, l2, some (.int s0)] [] σ Q := ev_S d107_26 rfl rfl rfl rfl
theorem d107_27 : decode (ab_C 107) 27 = .ok (.iload_n 3, 1) := by decide +kernel
theorem e107_27 {d : Nat} {l0 l1 l2 : Option Value} {x : Int32} {σ : ab_St} {Q : Option Value → ab_St → Prop} : Ev d 107 27 [l0, l1, l2, some (.int x)] [] σ Q = Ev d 107 28 [l0, l1, l2, some (.int x)] [.int x] σ Q := ev_A1 d107_27 rfl
theorem d107_28 : decode (ab_C 107) 28 = .ok (.bipush (-9), 2) := by decide +kernel
theorem e107_28 {d : Nat} {l0 l1 l2 l3 : Option Value} {s0 : Int32} {σ : ab_St} {Q : Option Value → ab_St → Prop} : Ev d 107 28 [l0, l1, l2, l3] [.int s0] σ Q = Ev d 107 30 [l0, l1, l2, l3] [.int (-9), .int s0] σ Q := ev_A1 d107_28 rfl
theorem d107_30 : decode (ab_C 107) 30 = .ok (.if_icmp .ne 5, 3) := by decide +kernel
theorem e107_30 {d : Nat} {l0 l1 l2 l3 : Option Value} {s0 : Int32} {s1 : Int32} {σ : ab_St} {Q : Option Value → ab_St → Prop} : Ev d 107 30 [l0, l1, l2, l3] [.int s0, .int s1] σ Q = if s1 = s0 then Ev d 107 33 [l0, l1, l2, l3] [] σ Q else Ev d 107 35 [l0, l1, l2, l3] [] σ Q := ev_B (c := s1 = s0) d107_30 rfl rfl rfl rfl rfl
theorem d107_33 : decode (ab_C 107) 33 = .ok (.iconst 0, 1) := by decide +kernel
theorem e107_33 {d : Nat} {l0 l1 l2 l3 : Option Value} {σ : ab_St} {Q : Option Value → ab_St → Prop} : Ev d 107 33 [l0, l1, l2, l3] [] σ Q = Ev d 107 34 [l0, l1, l2, l3] [.int 0] σ Q := ev_A1 d107_33 rfl
theorem d107_34 : decode (ab_C 107) 34 = .ok (.ireturn, 1) := by decide +kernel
theorem e107_34 {d : Nat} {l0 l1 l2 l3 : Option Value} {s0 : Int32} {σ : ab_St} {Q : Option Value → ab_St → Prop} : Ev d 107 34 [l0, l1, l2, l3] [.int s0] σ Q = ((s0 = 0 ∨ s0 = 1) ∧ Q (some (.int s0)) σ) := ev_Z d107_34 rfl
theorem d107_35 : decode (ab_C 107) 35 = .ok (.aload_n 0, 1) := by decide +kernel
theorem e107_35 {d : Nat} {l1 l2 l3 : Option Value} {x : Nat} {σ : ab_St} {Q : Option Value → ab_St → Prop} : Ev d 107 35 [some (.ref x), l1, l2, l3] [] σ Q = Ev d 107 36 [some (.ref x), l1, l2, l3] [.ref x] σ Q := ev_A1 d107_35 rfl
theorem d107_36 : decode (ab_C 107) 36 = .ok (.getfield 32, 3) := by decide +kernel
theorem e107_36 {d : Nat} {l0 l1 l2 l3 : Option Value} {s0 : Nat} {σ : ab_St} {Q : Option Value → ab_St → Prop} : Ev d 107 36 [l0, l1, l2, l3] [.ref s0] σ Q = (ab_k s0 = 10 ∧ Ev d 107 39 [l0, l1, l2, l3] [.ref (ab_r s0 17)] σ Q) := ev_Hc (c := ab_k s0 = 10) d107_36 rfl rfl rfl rfl rfl rfl rfl rfl
theorem d107_39 : decode (ab_C 107) 39 = .ok (.aload_n 0, 1) := by decide +kernel
theorem e107_39 {d : Nat} {l1 l2 l3 : Option Value} {x : Nat} {s0 : Nat} {σ : ab_St} {Q : Option Value → ab_St → Prop} : Ev d 107 39 [some (.ref x), l1, l2, l3] [.ref s0] σ Q = Ev d 107 40 [some (.ref x), l1, l2, l3] [.ref x, .ref s0] σ Q := ev_A1 d107_39 rfl
theorem d107_40 : decode (ab_C 107) 40 = .ok (.getfield 104, 3) := by decide +kernel
theorem e107_40 {d : Nat} {l0 l1 l2 l3 : Option Value} {s0 : Nat} {s1 : Nat} {σ : ab_St} {Q : Option Value → ab_St → Prop} : Ev d 107 40 [l0, l1, l2, l3] [.ref s0, .ref s1] σ Q = (ab_k s0 = 10 ∧ Ev d 107 43 [l0, l1, l2, l3] [.int (σ.1 s0 16), .ref s1] σ Q) := ev_Hc (c := ab_k s0 = 10) d107_40 rfl rfl rfl rfl rfl rfl rfl rfl
theorem d107_43 : decode (ab_C 107) 43 = .ok (.bipush 10, 2) := by decide +kernel
theorem e107_43 {d : Nat} {l0 l1 l2 l3 : Option Value} {s0 : Int32} {s1 : Nat} {σ : ab_St} {Q : Option Value → ab_St → Prop} : Ev d 107 43 [l0, l1, l2, l3] [.int s0, .ref s1] σ Q = Ev d 107 45 [l0, l1, l2, l3] [.int 10, .int s0, .ref s1] σ Q := ev_A1 d107_43 rfl
theorem d107_45 : decode (ab_C 107) 45 = .ok (.iload_n 2, 1) := by decide +kernel
theorem e107_45 {d : Nat} {l0 l1 l3 : Option Value} {x : Int32} {s0 : Int32} {s1 : Int32} {s2 : Nat} {σ : ab_St} {Q : Option Value → ab_St → Prop} : Ev d 107 45 [l0, l1, some (.int x), l3] [.int s0, .int s1, .ref s2] σ Q = Ev d 107 46 [l0, l1, some (.int x), l3] [.int x, .int s0, .int s1, .ref s2] σ Q := ev_A1 d107_45 rfl
theorem d107_46 : decode (ab_C 107) 46 = .ok (.imul, 1) := by decide +kernel
theorem e107_46 {d : Nat} {l0 l1 l2 l3 : Option Value} {s0 : Int32} {s1 : Int32} {s2 : Int32} {s3 : Nat} {σ : ab_St} {Q : Option Value → ab_St → Prop} : Ev d 107 46 [l0, l1, l2, l3] [.int s0, .int s1, .int s2, .ref s3] σ Q = Ev d 107 47 [l0, l1, l2, l3] [.int (s1 * s0), .int s2, .ref s3] σ Q := ev_A2 d107_46 rfl rfl
theorem d107_47 : decode (ab_C 107) 47 = .ok (.iload_n 3, 1) := by decide +kernel
theorem e107_47 {d : Nat} {l0 l1 l2 : Option Value} {x : Int32} {s0 : Int32} {s1 : Int32} {s2 : Nat} {σ : ab_St} {Q : Option Value → ab_St → Prop} : Ev d 107 47 [l0, l1, l2, some (.int x)] [.int s0, .int s1, .ref s2] σ Q = Ev d 107 48 [l0, l1, l2, some (.int x)] [.int x, .int s0, .int s1, .ref s2] σ Q := ev_A1 d107_47 rfl
theorem d107_48 : decode (ab_C 107) 48 = .ok (.iadd, 1) := by decide +kernel
theorem e107_48 {d : Nat} {l0 l1 l2 l3 : Option Value} {s0 : Int32} {s1 : Int32} {s2 : Int32} {s3 : Nat} {σ : ab_St} {Q : Option Value → ab_St → Prop} : Ev d 107 48 [l0, l1, l2, l3] [.int s0, .int s1, .int s2, .ref s3] σ Q = Ev d 107 49 [l0, l1, l2, l3] [.int (s1 + s0), .int s2, .ref s3] σ Q := ev_A2 d107_48 rfl rfl
theorem d107_49 : decode (ab_C 107) 49 = .ok (.iastore, 1) := by decide +kernel
theorem e107_49 {d : Nat} {l0 l1 l2 l3 : Option Value} {s0 : Int32} {s1 : Int32} {s2 : Nat} {σ : ab_St} {Q : Option Value → ab_St → Prop} : Ev d 107 49 [l0, l1, l2, l3] [.int s0, .int s1, .ref s2] σ Q = ((ab_k s2 = 100 ∧ ab_in s1 (ab_n s2)) ∧ Ev d 107 50 [l0, l1, l2, l3] [] (ab_wI σ s2 (upd (σ.1 s2) s1.toNatClampNeg s0)) Q) := ev_Hc (c := ab_k s2 = 100 ∧ ab_in s1 (ab_n s2)) d107_49 rfl rfl rfl rfl rfl rfl rfl rfl
theorem d107_50 : decode (ab_C 107) 50 = .ok (.aload_n 0, 1) := by decide +kernel
theorem e107_50 {d : Nat} {l1 l2 l3 : Option Value} {x : Nat} {σ : ab_St} {Q : Option Value → ab_St → Prop} : Ev d 107 50 [some (.ref x), l1, l2, l3] [] σ Q = Ev d 107 51 [some (.ref x), l1, l2, l3] [.ref x] σ Q := ev_A1 d107_50 rfl
theorem d107_51 : decode (ab_C 107) 51 = .ok (.dup, 1) := by decide +kernel
theorem e107_51 {d : Nat} {l0 l1 l2 l3 : Option Value} {s0 : Nat} {σ : ab_St} {Q : Option Value → ab_St → Prop} : Ev d 107 51 [l0, l1, l2, l3] [.ref s0] σ Q = Ev d 107 52 [l0, l1, l2, l3] [.ref s0, .ref s0] σ Q := ev_A1 d107_51 rfl
theorem d107_52 : decode (ab_C 107) 52 = .ok (.getfield 107, 3) := by decide +kernel
theorem e107_52 {d : Nat} {l0 l1 l2 l3 : Option Value} {s0 : Nat} {s1 : Nat} {σ : ab_St} {Q : Option Value → ab_St → Prop} : Ev d 107 52 [l0, l1, l2, l3] [.ref s0, .ref s1] σ Q = (ab_k s0 = 10 ∧ Ev d 107 55 [l0, l1, l2, l3] [.int (σ.1 s0 18), .ref s1] σ Q) := ev_Hc (c := ab_k s0 = 10) d107_52 rfl rfl rfl rfl rfl rfl rfl rfl
theorem d107_55 : decode (ab_C 107) 55 = .ok (.iload_n 1, 1) := by decide +kernel
theorem e107_55 {d : Nat} {l0 l2 l3 : Option Value} {x : Int32} {s0 : Int32} {s1 : Nat} {σ : ab_St} {Q : Option Value → ab_St → Prop} : Ev d 107 55 [l0, some (.int x), l2, l3] [.int s0, .ref s1] σ Q = Ev d 107 56 [l0, some (.int x), l2, l3] [.int x, .int s0, .ref s1] σ Q := ev_A1 d107_55 rfl
theorem d107_56 : decode (ab_C 107) 56 = .ok (.ifCond .eq 12, 3) := by decide +kernel
theorem e107_56 {d : Nat} {l0 l1 l2 l3 : Option Value} {s0 : Int32} {s1 : Int32} {s2 : Nat} {σ : ab_St} {Q : Option Value → ab_St → Prop} : Ev d 107 56 [l0, l1, l2, l3] [.int s0, .int s1, .ref s2] σ Q = if s0 = 0 then Ev d 107 68 [l0, l1, l2, l3] [.int s1, .ref s2] σ Q else Ev d 107 59 [l0, l1, l2, l3] [.int s1, .ref s2] σ Q := ev_B (c := s0 = 0) d107_56 rfl rfl rfl rfl rfl
theorem d107_59 : decode (ab_C 107) 59 = .ok (.iconst 1, 1) := by decide +kernel
theorem e107_59 {d : Nat} {l0 l1 l2 l3 : Option Value} {s0 : Int32} {s1 : Nat} {σ : ab_St} {Q : Option Value → ab_St → Prop} : Ev d 107 59 [l0, l1, l2, l3] [.int s0, .ref s1] σ Q = Ev d 107 60 [l0, l1, l2, l3] [.int 1, .int s0, .ref s1] σ Q := ev_A1 d107_59 rfl
theorem d107_60 : decode (ab_C 107) 60 = .ok (.aload_n 0, 1) := by decide +kernel
theorem e107_60 {d : Nat} {l1 l2 l3 : Option Value} {x : Nat} {s0 : Int32} {s1 : Int32} {s2 : Nat} {σ : ab_St} {Q : Option Value → ab_St → Prop} : Ev d 107 60 [some (.ref x), l1, l2, l3] [.int s0, .int s1, .ref s2] σ Q = Ev d 107 61 [some (.ref x), l1, l2, l3] [.ref x, .int s0, .int s1, .ref s2] σ Q := ev_A1 d107_60 rfl
theorem d107_61 : decode (ab_C 107) 61 = .ok (.getfield 104, 3) := by decide +kernel
theorem e107_61 {d : Nat} {l0 l1 l2 l3 : Option Value} {s0 : Nat} {s1 : Int32} {s2 : Int32} {s3 : Nat} {σ : ab_St} {Q : Option Value → ab_St → Prop} : Ev d 107 61 [l0, l1, l2, l3] [.ref s0, .int s1, .int s2, .ref s3] σ Q = (ab_k s0 = 10 ∧ Ev d 107 64 [l0, l1, l2, l3] [.int (σ.1 s0 16), .int s1, .int s2, .ref s3] σ Q) := ev_Hc (c := ab_k s0 = 10) d107_61 rfl rfl rfl rfl rfl rfl rfl rfl
theorem d107_64 : decode (ab_C 107) 64 = .ok (.ishl, 1) := by decide +kernel
theorem e107_64 {d : Nat} {l0 l1 l2 l3 : Option Value} {s0 : Int32} {s1 : Int32} {s2 : Int32} {s3 : Nat} {σ : ab_St} {Q : Option Value → ab_St → Prop} : Ev d 107 64 [l0, l1, l2, l3] [.int s0, .int s1, .int s2, .ref s3] σ Q = Ev d 107 65 [l0, l1, l2, l3] [.int (s1 <<< (s0 &&& 31)), .int s2, .ref s3] σ Q := ev_A2 d107_64 rfl rfl
theorem d107_65 : decode (ab_C 107) 65 = .ok (.goto 4, 3) := by decide +kernel
theorem e107_65 {d : Nat} {l0 l1 l2 l3 : Option Value} {s0 : Int32} {s1 : Int32} {s2 : Nat} {σ : ab_St} {Q : Option Value → ab_St → Prop} : Ev d 107 65 [l0, l1, l2, l3] [.int s0, .int s1, .ref s2] σ Q = Ev d 107 69 [l0, l1, l2, l3] [.int s0, .int s1, .ref s2] σ Q := ev_J d107_65 rfl rfl rfl rfl rfl
theorem d107_68 : decode (ab_C 107) 68 = .ok (.iconst 0, 1) := by decide +kernel
theorem e107_68 {d : Nat} {l0 l1 l2 l3 : Option Value} {s0 : Int32} {s1 : Nat} {σ : ab_St} {Q : Option Value → ab_St → Prop} : Ev d 107 68 [l0, l1, l2, l3] [.int s0, .ref s1] σ Q = Ev d 107 69 [l0, l1, l2, l3] [.int 0, .int s0, .ref s1] σ Q := ev_A1 d107_68 rfl
theorem d107_69 : decode (ab_C 107) 69 = .ok (.ior, 1) := by decide +kernel
theorem e107_69 {d : Nat} {l0 l1 l2 l3 : Option Value} {s0 : Int32} {s1 : Int32} {s2 : Nat} {σ : ab_St} {Q : Option Value → ab_St → Prop} : Ev d 107 69 [l0, l1, l2, l3] [.int s0, .int s1, .ref s2] σ Q = Ev d 107 70 [l0, l1, l2, l3] [.int (s1 ||| s0), .ref s2] σ Q := ev_A2 d107_69 rfl rfl
theorem d107_70 : decode (ab_C 107) 70 = .ok (.putfield 107, 3) := by decide +kernel
theorem e107_70 {d : Nat} {l0 l1 l2 l3 : Option Value} {s0 : Int32} {s1 : Nat} {σ : ab_St} {Q : Option Value → ab_St → Prop} : Ev d 107 70 [l0, l1, l2, l3] [.int s0, .ref s1] σ Q = (ab_k s1 = 10 ∧ Ev d 107 73 [l0, l1, l2, l3] [] (ab_wI σ s1 (upd (σ.1 s1) 18 s0)) Q) := ev_Hc (c := ab_k s1 = 10) d107_70 rfl rfl rfl rfl rfl rfl rfl rfl
theorem d107_73 : decode (ab_C 107) 73 = .ok (.aload_n 0, 1) := by decide +kernel
theorem e107_73 {d : Nat} {l1 l2 l3 : Option Value} {x : Nat} {σ : ab_St} {Q : Option Value → ab_St → Prop} : Ev d 107 73 [some (.ref x), l1, l2, l3] [] σ Q = Ev d 107 74 [some (.ref x), l1, l2, l3] [.ref x] σ Q := ev_A1 d107_73 rfl
theorem d107_74 : decode (ab_C 107) 74 = .ok (.dup, 1) := by decide +kernel
theorem e107_74 {d : Nat} {l0 l1 l2 l3 : Option Value} {s0 : Nat} {σ : ab_St} {Q : Option Value → ab_St → Prop} : Ev d 107 74 [l0, l1, l2, l3] [.ref s0] σ Q = Ev d 107 75 [l0, l1, l2, l3] [.ref s0, .ref s0] σ Q := ev_A1 d107_74 rfl
theorem d107_75 : decode (ab_C 107) 75 = .ok (.getfield 104, 3) := by decide +kernel
theorem e107_75 {d : Nat} {l0 l1 l2 l3 : Option Value} {s0 : Nat} {s1 : Nat} {σ : ab_St} {Q : Option Value → ab_St → Prop} : Ev d 107 75 [l0, l1, l2, l3] [.ref s0, .ref s1] σ Q = (ab_k s0 = 10 ∧ Ev d 107 78 [l0, l1, l2, l3] [.int (σ.1 s0 16), .ref s1] σ Q) := ev_Hc (c := ab_k s0 = 10) d107_75 rfl rfl rfl rfl rfl rfl rfl rfl
theorem d107_78 : decode (ab_C 107) 78 = .ok (.iconst 1, 1) := by decide +kernel
theorem e107_78 {d : Nat} {l0 l1 l2 l3 : Option Value} {s0 : Int32} {s1 : Nat} {σ : ab_St} {Q : Option Value → ab_St → Prop} : Ev d 107 78 [l0, l1, l2, l3] [.int s0, .ref s1] σ Q = Ev d 107 79 [l0, l1, l2, l3] [.int 1, .int s0, .ref s1] σ Q := ev_A1 d107_78 rfl
theorem d107_79 : decode (ab_C 107) 79 = .ok (.iadd, 1) := by decide +kernel
theorem e107_79 {d : Nat} {l0 l1 l2 l3 : Option Value} {s0 : Int32} {s1 : Int32} {s2 : Nat} {σ : ab_St} {Q : Option Value → ab_St → Prop} : Ev d 107 79 [l0, l1, l2, l3] [.int s0, .int s1, .ref s2] σ Q = Ev d 107 80 [l0, l1, l2, l3] [.int (s1 + s0), .ref s2] σ Q := ev_A2 d107_79 rfl rfl
theorem d107_80 : decode (ab_C 107) 80 = .ok (.putfield 104, 3) := by decide +kernel
theorem e107_80 {d : Nat} {l0 l1 l2 l3 : Option Value} {s0 : Int32} {s1 : Nat} {σ : ab_St} {Q : Option Value → ab_St → Prop} : Ev d 107 80 [l0, l1, l2, l3] [.int s0, .ref s1] σ Q = (ab_k s1 = 10 ∧ Ev d 107 83 [l0, l1, l2, l3] [] (ab_wI σ s1 (upd (σ.1 s1) 16 s0)) Q) := ev_Hc (c := ab_k s1 = 10) d107_80 rfl rfl rfl rfl rfl rfl rfl rfl
theorem d107_83 : decode (ab_C 107) 83 = .ok (.iconst 1, 1) := by decide +kernel
theorem e107_83 {d : Nat} {l0 l1 l2 l3 : Option Value} {σ : ab_St} {Q : Option Value → ab_St → Prop} : Ev d 107 83 [l0, l1, l2, l3] [] σ Q = Ev d 107 84 [l0, l1, l2, l3] [.int 1] σ Q := ev_A1 d107_83 rfl
theorem d107_84 : decode (ab_C 107) 84 = .ok (.ireturn, 1) := by decide +kernel
theorem e107_84 {d : Nat} {l0 l1 l2 l3 : Option Value} {s0 : Int32} {σ : ab_St} {Q : Option Value → ab_St → Prop} : Ev d 107 84 [l0, l1, l2, l3] [.int s0] σ Q = ((s0 = 0 ∨ s0 = 1) ∧ Q (some (.int s0)) σ) := ev_Z d107_84 rfl
/-! SaidLeastModel.readSaying()Z -/
theorem d108_0 : decode (ab_C 108) 0 = .ok (.aload_n 0, 1) := by decide +kernel
theorem e108_0 {d : Nat} {l1 l2 l3 l4 : Option Value} {x : Nat} {σ : ab_St} {Q : Option Value → ab_St → Prop} : Ev d 108 0 [some (.ref x), l1, l2, l3, l4] [] σ Q = Ev d 108 1 [some (.ref x), l1, l2, l3, l4] [.ref x] σ Q := ev_A1 d108_0 rfl
theorem d108_1 : decode (ab_C 108) 1 = .ok (.iconst 0, 1) := by decide +kernel
theorem e108_1 {d : Nat} {l0 l1 l2 l3 l4 : Option Value} {s0 : Nat} {σ : ab_St} {Q : Option Value → ab_St → Prop} : Ev d 108 1 [l0, l1, l2, l3, l4] [.ref s0] σ Q = Ev d 108 2 [l0, l1, l2, l3, l4] [.int 0, .ref s0] σ Q := ev_A1 d108_1 rfl
theorem d108_2 : decode (ab_C 108) 2 = .ok (.aload_n 0, 1) := by decide +kernel
theorem e108_2 {d : Nat} {l1 l2 l3 l4 : Option Value} {x : Nat} {s0 : Int32} {s1 : Nat} {σ : ab_St} {Q : Option Value → ab_St → Prop} : Ev d 108 2 [some (.ref x), l1, l2, l3, l4] [.int s0, .ref s1] σ Q = Ev d 108 3 [some (.ref x), l1, l2, l3, l4] [.ref x, .int s0, .ref s1] σ Q := ev_A1 d108_2 rfl
theorem d108_3 : decode (ab_C 108) 3 = .ok (.getfield 104, 3) := by decide +kernel
theorem e108_3 {d : Nat} {l0 l1 l2 l3 l4 : Option Value} {s0 : Nat} {s1 : Int32} {s2 : Nat} {σ : ab_St} {Q : Option Value → ab_St → Prop} : Ev d 108 3 [l0, l1, l2, l3, l4] [.ref s0, .int s1, .ref s2] σ Q = (ab_k s0 = 10 ∧ Ev d 108 6 [l0, l1, l2, l3, l4] [.int (σ.1 s0 16), .int s1, .ref s2] σ Q) := ev_Hc (c := ab_k s0 = 10) d108_3 rfl rfl rfl rfl rfl rfl rfl rfl
theorem d108_6 : decode (ab_C 108) 6 = .ok (.iconst 1, 1) := by decide +kernel
theorem e108_6 {d : Nat} {l0 l1 l2 l3 l4 : Option Value} {s0 : Int32} {s1 : Int32} {s2 : Nat} {σ : ab_St} {Q : Option Value → ab_St → Prop} : Ev d 108 6 [l0, l1, l2, l3, l4] [.int s0, .int s1, .ref s2] σ Q = Ev d 108 7 [l0, l1, l2, l3, l4] [.int 1, .int s0, .int s1, .ref s2] σ Q := ev_A1 d108_6 rfl
theorem d108_7 : decode (ab_C 108) 7 = .ok (.isub, 1) := by decide +kernel
theorem e108_7 {d : Nat} {l0 l1 l2 l3 l4 : Option Value} {s0 : Int32} {s1 : Int32} {s2 : Int32} {s3 : Nat} {σ : ab_St} {Q : Option Value → ab_St → Prop} : Ev d 108 7 [l0, l1, l2, l3, l4] [.int s0, .int s1, .int s2, .ref s3] σ Q = Ev d 108 8 [l0, l1, l2, l3, l4] [.int (s1 - s0), .int s2, .ref s3] σ Q := ev_A2 d108_7 rfl rfl
theorem d108_8 : decode (ab_C 108) 8 = .ok (.invokevirtual 100, 3) := by decide +kernel
theorem e108_8 {d : Nat} {l0 l1 l2 l3 l4 : Option Value} {s0 : Int32} {s1 : Int32} {s2 : Nat} {σ : ab_St} {Q : Option Value → ab_St → Prop} : Ev (d + 1) 108 8 [l0, l1, l2, l3, l4] [.int s0, .int s1, .ref s2] σ Q = (ab_k s2 = 10 ∧ Ev d 105 0 [some (.ref s2), some (.int s1), some (.int s0)] [] σ (fun r σ2 => Ev (d + 1) 108 11 [l0, l1, l2, l3, l4] (r.toList ++ []) σ2 Q)) := ev_KV (b := s2) (ls := [l0, l1, l2, l3, l4]) (st := [.int s0, .int s1, .ref s2]) (as := [.int s1, .int s0]) (rest := []) d108_8 rfl rfl rfl (Nat.le_of_ble_eq_true rfl) (Nat.le_of_ble_eq_true rfl) (Nat.le_of_ble_eq_true rfl) rfl rfl rfl rfl rfl rfl rfl
theorem d108_11 : decode (ab_C 108) 11 = .ok (.istore_n 1, 1) := by decide +kernel
theorem e108_11 {d : Nat} {l0 l1 l2 l3 l4 : Option Value} {s0 : Int32} {σ : ab_St} {Q : Option Value → ab_St → Prop} : Ev d 108 11 [l0, l1, l2, l3, l4] [.int s0] σ Q = Ev d 108 12 [l0, some (.int s0), l2, l3, l4] [] σ Q := ev_S d108_11 rfl rfl rfl rfl
theorem d108_12 : decode (ab_C 108) 12 = .ok (.iload_n 1, 1) := by decide +kernel
theorem e108_12 {d : Nat} {l0 l2 l3 l4 : Option Value} {x : Int32} {σ : ab_St} {Q : Option Value → ab_St → Prop} : Ev d 108 12 [l0, some (.int x), l2, l3, l4] [] σ Q = Ev d 108 13 [l0, some (.int x), l2, l3, l4] [.int x] σ Q := ev_A1 d108_12 rfl
theorem d108_13 : decode (ab_C 108) 13 = .ok (.bipush (-9), 2) := by decide +kernel
theorem e108_13 {d : Nat} {l0 l1 l2 l3 l4 : Option Value} {s0 : Int32} {σ : ab_St} {Q : Option Value → ab_St → Prop} : Ev d 108 13 [l0, l1, l2, l3, l4] [.int s0] σ Q = Ev d 108 15 [l0, l1, l2, l3, l4] [.int (-9), .int s0] σ Q := ev_A1 d108_13 rfl
theorem d108_15 : decode (ab_C 108) 15 = .ok (.if_icmp .ne 8, 3) := by decide +kernel
theorem e108_15 {d : Nat} {l0 l1 l2 l3 l4 : Option Value} {s0 : Int32} {s1 : Int32} {σ : ab_St} {Q : Option Value → ab_St → Prop} : Ev d 108 15 [l0, l1, l2, l3, l4] [.int s0, .int s1] σ Q = if s1 = s0 then Ev d 108 18 [l0, l1, l2, l3, l4] [] σ Q else Ev d 108 23 [l0, l1, l2, l3, l4] [] σ Q := ev_B (c := s1 = s0) d108_15 rfl rfl rfl rfl rfl
theorem d108_18 : decode (ab_C 108) 18 = .ok (.bipush (-9), 2) := by decide +kernel
theorem e108_18 {d : Nat} {l0 l1 l2 l3 l4 : Option Value} {σ : ab_St} {Q : Option Value → ab_St → Prop} : Ev d 108 18 [l0, l1, l2, l3, l4] [] σ Q = Ev d 108 20 [l0, l1, l2, l3, l4] [.int (-9)] σ Q := ev_A1 d108_18 rfl
theorem d108_20 : decode (ab_C 108) 20 = .ok (.goto 10, 3) := by decide +kernel
theorem e108_20 {d : Nat} {l0 l1 l2 l3 l4 : Option Value} {s0 : Int32} {σ : ab_St} {Q : Option Value → ab_St → Prop} : Ev d 108 20 [l0, l1, l2, l3, l4] [.int s0] σ Q = Ev d 108 30 [l0, l1, l2, l3, l4] [.int s0] σ Q := ev_J d108_20 rfl rfl rfl rfl rfl
theorem d108_23 : decode (ab_C 108) 23 = .ok (.aload_n 0, 1) := by decide +kernel
theorem e108_23 {d : Nat} {l1 l2 l3 l4 : Option Value} {x : Nat} {σ : ab_St} {Q : Option Value → ab_St → Prop} : Ev d 108 23 [some (.ref x), l1, l2, l3, l4] [] σ Q = Ev d 108 24 [some (.ref x), l1, l2, l3, l4] [.ref x] σ Q := ev_A1 d108_23 rfl
theorem d108_24 : decode (ab_C 108) 24 = .ok (.iconst 1, 1) := by decide +kernel
theorem e108_24 {d : Nat} {l0 l1 l2 l3 l4 : Option Value} {s0 : Nat} {σ : ab_St} {Q : Option Value → ab_St → Prop} : Ev d 108 24 [l0, l1, l2, l3, l4] [.ref s0] σ Q = Ev d 108 25 [l0, l1, l2, l3, l4] [.int 1, .ref s0] σ Q := ev_A1 d108_24 rfl
theorem d108_25 : decode (ab_C 108) 25 = .ok (.bipush 9, 2) := by decide +kernel
theorem e108_25 {d : Nat} {l0 l1 l2 l3 l4 : Option Value} {s0 : Int32} {s1 : Nat} {σ : ab_St} {Q : Option Value → ab_St → Prop} : Ev d 108 25 [l0, l1, l2, l3, l4] [.int s0, .ref s1] σ Q = Ev d 108 27 [l0, l1, l2, l3, l4] [.int 9, .int s0, .ref s1] σ Q := ev_A1 d108_25 rfl
theorem d108_27 : decode (ab_C 108) 27 = .ok (.invokevirtual 100, 3) := by decide +kernel
theorem e108_27 {d : Nat} {l0 l1 l2 l3 l4 : Option Value} {s0 : Int32} {s1 : Int32} {s2 : Nat} {σ : ab_St} {Q : Option Value → ab_St → Prop} : Ev (d + 1) 108 27 [l0, l1, l2, l3, l4] [.int s0, .int s1, .ref s2] σ Q = (ab_k s2 = 10 ∧ Ev d 105 0 [some (.ref s2), some (.int s1), some (.int s0)] [] σ (fun r σ2 => Ev (d + 1) 108 30 [l0, l1, l2, l3, l4] (r.toList ++ []) σ2 Q)) := ev_KV (b := s2) (ls := [l0, l1, l2, l3, l4]) (st := [.int s0, .int s1, .ref s2]) (as := [.int s1, .int s0]) (rest := []) d108_27 rfl rfl rfl (Nat.le_of_ble_eq_true rfl) (Nat.le_of_ble_eq_true rfl) (Nat.le_of_ble_eq_true rfl) rfl rfl rfl rfl rfl rfl rfl
theorem d108_30 : decode (ab_C 108) 30 = .ok (.istore_n 2, 1) := by decide +kernel
theorem e108_30 {d : Nat} {l0 l1 l2 l3 l4 : Option Value} {s0 : Int32} {σ : ab_St} {Q : Option Value → ab_St → Prop} : Ev d 108 30 [l0, l1, l2, l3, l4] [.int s0] σ Q = Ev d 108 31 [l0, l1, some (.int s0), l3, l4] [] σ Q := ev_S d108_30 rfl rfl rfl rfl
theorem d108_31 : decode (ab_C 108) 31 = .ok (.iload_n 2, 1) := by decide +kernel
theorem e108_31 {d : Nat} {l0 l1 l3 l4 : Option Value} {x : Int32} {σ : ab_St} {Q : Option Value → ab_St → Prop} : Ev d 108 31 [l0, l1, some (.int x), l3, l4] [] σ Q = Ev d 108 32 [l0, l1, some (.int x), l3, l4] [.int x] σ Q := ev_A1 d108_31 rfl
theorem d108_32 : decode (ab_C 108) 32 = .ok (.bipush (-9), 2) := by decide +kernel
theorem e108_32 {d : Nat} {l0 l1 l2 l3 l4 : Option Value} {s0 : Int32} {σ : ab_St} {Q : Option Value → ab_St → Prop} : Ev d 108 32 [l0, l1, l2, l3, l4] [.int s0] σ Q = Ev d 108 34 [l0, l1, l2, l3, l4] [.int (-9), .int s0] σ Q := ev_A1 d108_32 rfl
theorem d108_34 : decode (ab_C 108) 34 = .ok (.if_icmp .ne 8, 3) := by decide +kernel
theorem e108_34 {d : Nat} {l0 l1 l2 l3 l4 : Option Value} {s0 : Int32} {s1 : Int32} {σ : ab_St} {Q : Option Value → ab_St → Prop} : Ev d 108 34 [l0, l1, l2, l3, l4] [.int s0, .int s1] σ Q = if s1 = s0 then Ev d 108 37 [l0, l1, l2, l3, l4] [] σ Q else Ev d 108 42 [l0, l1, l2, l3, l4] [] σ Q := ev_B (c := s1 = s0) d108_34 rfl rfl rfl rfl rfl
theorem d108_37 : decode (ab_C 108) 37 = .ok (.bipush (-9), 2) := by decide +kernel
theorem e108_37 {d : Nat} {l0 l1 l2 l3 l4 : Option Value} {σ : ab_St} {Q : Option Value → ab_St → Prop} : Ev d 108 37 [l0, l1, l2, l3, l4] [] σ Q = Ev d 108 39 [l0, l1, l2, l3, l4] [.int (-9)] σ Q := ev_A1 d108_37 rfl
theorem d108_39 : decode (ab_C 108) 39 = .ok (.goto 10, 3) := by decide +kernel
theorem e108_39 {d : Nat} {l0 l1 l2 l3 l4 : Option Value} {s0 : Int32} {σ : ab_St} {Q : Option Value → ab_St → Prop} : Ev d 108 39 [l0, l1, l2, l3, l4] [.int s0] σ Q = Ev d 108 49 [l0, l1, l2, l3, l4] [.int s0] σ Q := ev_J d108_39 rfl rfl rfl rfl rfl
theorem d108_42 : decode (ab_C 108) 42 = .ok (.aload_n 0, 1) := by decide +kernel
theorem e108_42 {d : Nat} {l1 l2 l3 l4 : Option Value} {x : Nat} {σ : ab_St} {Q : Option Value → ab_St → Prop} : Ev d 108 42 [some (.ref x), l1, l2, l3, l4] [] σ Q = Ev d 108 43 [some (.ref x), l1, l2, l3, l4] [.ref x] σ Q := ev_A1 d108_42 rfl
theorem d108_43 : decode (ab_C 108) 43 = .ok (.iconst 0, 1) := by decide +kernel
theorem e108_43 {d : Nat} {l0 l1 l2 l3 l4 : Option Value} {s0 : Nat} {σ : ab_St} {Q : Option Value → ab_St → Prop} : Ev d 108 43 [l0, l1, l2, l3, l4] [.ref s0] σ Q = Ev d 108 44 [l0, l1, l2, l3, l4] [.int 0, .ref s0] σ Q := ev_A1 d108_43 rfl
theorem d108_44 : decode (ab_C 108) 44 = .ok (.bipush 9, 2) := by decide +kernel
theorem e108_44 {d : Nat} {l0 l1 l2 l3 l4 : Option Value} {s0 : Int32} {s1 : Nat} {σ : ab_St} {Q : Option Value → ab_St → Prop} : Ev d 108 44 [l0, l1, l2, l3, l4] [.int s0, .ref s1] σ Q = Ev d 108 46 [l0, l1, l2, l3, l4] [.int 9, .int s0, .ref s1] σ Q := ev_A1 d108_44 rfl
theorem d108_46 : decode (ab_C 108) 46 = .ok (.invokevirtual 100, 3) := by decide +kernel
theorem e108_46 {d : Nat} {l0 l1 l2 l3 l4 : Option Value} {s0 : Int32} {s1 : Int32} {s2 : Nat} {σ : ab_St} {Q : Option Value → ab_St → Prop} : Ev (d + 1) 108 46 [l0, l1, l2, l3, l4] [.int s0, .int s1, .ref s2] σ Q = (ab_k s2 = 10 ∧ Ev d 105 0 [some (.ref s2), some (.int s1), some (.int s0)] [] σ (fun r σ2 => Ev (d + 1) 108 49 [l0, l1, l2, l3, l4] (r.toList ++ []) σ2 Q)) := ev_KV (b := s2) (ls := [l0, l1, l2, l3, l4]) (st := [.int s0, .int s1, .ref s2]) (as := [.int s1, .int s0]) (rest := []) d108_46 rfl rfl rfl (Nat.le_of_ble_eq_true rfl) (Nat.le_of_ble_eq_true rfl) (Nat.le_of_ble_eq_true rfl) rfl rfl rfl rfl rfl rfl rfl
theorem d108_49 : decode (ab_C 108) 49 = .ok (.istore_n 3, 1) := by decide +kernel
theorem e108_49 {d : Nat} {l0 l1 l2 l3 l4 : Option Value} {s0 : Int32} {σ : ab_St} {Q : Option Value → ab_St → Prop} : Ev d 108 49 [l0, l1, l2, l3, l4] [.int s0] σ Q = Ev d 108 50 [l0, l1, l2, some (.int s0), l4] [] σ Q := ev_S d108_49 rfl rfl rfl rfl
theorem d108_50 : decode (ab_C 108) 50 = .ok (.iload_n 3, 1) := by decide +kernel
theorem e108_50 {d : Nat} {l0 l1 l2 l4 : Option Value} {x : Int32} {σ : ab_St} {Q : Option Value → ab_St → Prop} : Ev d 108 50 [l0, l1, l2, some (.int x), l4] [] σ Q = Ev d 108 51 [l0, l1, l2, some (.int x), l4] [.int x] σ Q := ev_A1 d108_50 rfl
theorem d108_51 : decode (ab_C 108) 51 = .ok (.bipush (-9), 2) := by decide +kernel
theorem e108_51 {d : Nat} {l0 l1 l2 l3 l4 : Option Value} {s0 : Int32} {σ : ab_St} {Q : Option Value → ab_St → Prop} : Ev d 108 51 [l0, l1, l2, l3, l4] [.int s0] σ Q = Ev d 108 53 [l0, l1, l2, l3, l4] [.int (-9), .int s0] σ Q := ev_A1 d108_51 rfl
theorem d108_53 : decode (ab_C 108) 53 = .ok (.if_icmp .eq 14, 3) := by decide +kernel
theorem e108_53 {d : Nat} {l0 l1 l2 l3 l4 : Option Value} {s0 : Int32} {s1 : Int32} {σ : ab_St} {Q : Option Value → ab_St → Prop} : Ev d 108 53 [l0, l1, l2, l3, l4] [.int s0, .int s1] σ Q = if s1 = s0 then Ev d 108 67 [l0, l1, l2, l3, l4] [] σ Q else Ev d 108 56 [l0, l1, l2, l3, l4] [] σ Q := ev_B (c := s1 = s0) d108_53 rfl rfl rfl rfl rfl
theorem d108_56 : decode (ab_C 108) 56 = .ok (.aload_n 0, 1) := by decide +kernel
theorem e108_56 {d : Nat} {l1 l2 l3 l4 : Option Value} {x : Nat} {σ : ab_St} {Q : Option Value → ab_St → Prop} : Ev d 108 56 [some (.ref x), l1, l2, l3, l4] [] σ Q = Ev d 108 57 [some (.ref x), l1, l2, l3, l4] [.ref x] σ Q := ev_A1 d108_56 rfl
theorem d108_57 : decode (ab_C 108) 57 = .ok (.getfield 97, 3) := by decide +kernel
theorem e108_57 {d : Nat} {l0 l1 l2 l3 l4 : Option Value} {s0 : Nat} {σ : ab_St} {Q : Option Value → ab_St → Prop} : Ev d 108 57 [l0, l1, l2, l3, l4] [.ref s0] σ Q = (ab_k s0 = 10 ∧ Ev d 108 60 [l0, l1, l2, l3, l4] [.int (σ.1 s0 3)] σ Q) := ev_Hc (c := ab_k s0 = 10) d108_57 rfl rfl rfl rfl rfl rfl rfl rfl
theorem d108_60 : decode (ab_C 108) 60 = .ok (.aload_n 0, 1) := by decide +kernel
theorem e108_60 {d : Nat} {l1 l2 l3 l4 : Option Value} {x : Nat} {s0 : Int32} {σ : ab_St} {Q : Option Value → ab_St → Prop} : Ev d 108 60 [some (.ref x), l1, l2, l3, l4] [.int s0] σ Q = Ev d 108 61 [some (.ref x), l1, l2, l3, l4] [.ref x, .int s0] σ Q := ev_A1 d108_60 rfl
theorem d108_61 : decode (ab_C 108) 61 = .ok (.getfield 94, 3) := by decide +kernel
theorem e108_61 {d : Nat} {l0 l1 l2 l3 l4 : Option Value} {s0 : Nat} {s1 : Int32} {σ : ab_St} {Q : Option Value → ab_St → Prop} : Ev d 108 61 [l0, l1, l2, l3, l4] [.ref s0, .int s1] σ Q = (ab_k s0 = 10 ∧ Ev d 108 64 [l0, l1, l2, l3, l4] [.int (σ.1 s0 2), .int s1] σ Q) := ev_Hc (c := ab_k s0 = 10) d108_61 rfl rfl rfl rfl rfl rfl rfl rfl
theorem d108_64 : decode (ab_C 108) 64 = .ok (.if_icmp .ne 5, 3) := by decide +kernel
theorem e108_64 {d : Nat} {l0 l1 l2 l3 l4 : Option Value} {s0 : Int32} {s1 : Int32} {σ : ab_St} {Q : Option Value → ab_St → Prop} : Ev d 108 64 [l0, l1, l2, l3, l4] [.int s0, .int s1] σ Q = if s1 = s0 then Ev d 108 67 [l0, l1, l2, l3, l4] [] σ Q else Ev d 108 69 [l0, l1, l2, l3, l4] [] σ Q := ev_B (c := s1 = s0) d108_64 rfl rfl rfl rfl rfl
theorem d108_67 : decode (ab_C 108) 67 = .ok (.iconst 0, 1) := by decide +kernel
theorem e108_67 {d : Nat} {l0 l1 l2 l3 l4 : Option Value} {σ : ab_St} {Q : Option Value → ab_St → Prop} : Ev d 108 67 [l0, l1, l2, l3, l4] [] σ Q = Ev d 108 68 [l0, l1, l2, l3, l4] [.int 0] σ Q := ev_A1 d108_67 rfl
theorem d108_68 : decode (ab_C 108) 68 = .ok (.ireturn, 1) := by decide +kernel
theorem e108_68 {d : Nat} {l0 l1 l2 l3 l4 : Option Value} {s0 : Int32} {σ : ab_St} {Q : Option Value → ab_St → Prop} : Ev d 108 68 [l0, l1, l2, l3, l4] [.int s0] σ Q = ((s0 = 0 ∨ s0 = 1) ∧ Q (some (.int s0)) σ) := ev_Z d108_68 rfl
theorem d108_69 : decode (ab_C 108) 69 = .ok (.aload_n 0, 1) := by decide +kernel
theorem e108_69 {d : Nat} {l1 l2 l3 l4 : Option Value} {x : Nat} {σ : ab_St} {Q : Option Value → ab_St → Prop} : Ev d 108 69 [some (.ref x), l1, l2, l3, l4] [] σ Q = Ev d 108 70 [some (.ref x), l1, l2, l3, l4] [.ref x] σ Q := ev_A1 d108_69 rfl
theorem d108_70 : decode (ab_C 108) 70 = .ok (.getfield 7, 3) := by decide +kernel
theorem e108_70 {d : Nat} {l0 l1 l2 l3 l4 : Option Value} {s0 : Nat} {σ : ab_St} {Q : Option Value → ab_St → Prop} : Ev d 108 70 [l0, l1, l2, l3, l4] [.ref s0] σ Q = (ab_k s0 = 10 ∧ Ev d 108 73 [l0, l1, l2, l3, l4] [.ref (ab_r s0 1)] σ Q) := ev_Hc (c := ab_k s0 = 10) d108_70 rfl rfl rfl rfl rfl rfl rfl rfl
theorem d108_73 : decode (ab_C 108) 73 = .ok (.aload_n 0, 1) := by decide +kernel
theorem e108_73 {d : Nat} {l1 l2 l3 l4 : Option Value} {x : Nat} {s0 : Nat} {σ : ab_St} {Q : Option Value → ab_St → Prop} : Ev d 108 73 [some (.ref x), l1, l2, l3, l4] [.ref s0] σ Q = Ev d 108 74 [some (.ref x), l1, l2, l3, l4] [.ref x, .ref s0] σ Q := ev_A1 d108_73 rfl
theorem d108_74 : decode (ab_C 108) 74 = .ok (.getfield 97, 3) := by decide +kernel
theorem e108_74 {d : Nat} {l0 l1 l2 l3 l4 : Option Value} {s0 : Nat} {s1 : Nat} {σ : ab_St} {Q : Option Value → ab_St → Prop} : Ev d 108 74 [l0, l1, l2, l3, l4] [.ref s0, .ref s1] σ Q = (ab_k s0 = 10 ∧ Ev d 108 77 [l0, l1, l2, l3, l4] [.int (σ.1 s0 3), .ref s1] σ Q) := ev_Hc (c := ab_k s0 = 10) d108_74 rfl rfl rfl rfl rfl rfl rfl rfl
theorem d108_77 : decode (ab_C 108) 77 = .ok (.iaload, 1) := by decide +kernel
theorem e108_77 {d : Nat} {l0 l1 l2 l3 l4 : Option Value} {s0 : Int32} {s1 : Nat} {σ : ab_St} {Q : Option Value → ab_St → Prop} : Ev d 108 77 [l0, l1, l2, l3, l4] [.int s0, .ref s1] σ Q = ((ab_k s1 = 100 ∧ ab_in s0 (ab_n s1)) ∧ Ev d 108 78 [l0, l1, l2, l3, l4] [.int (σ.1 s1 s0.toNatClampNeg)] σ Q) := ev_Hc (c := ab_k s1 = 100 ∧ ab_in s0 (ab_n s1)) d108_77 rfl rfl rfl rfl rfl rfl rfl rfl
theorem d108_78 : decode (ab_C 108) 78 = .ok (.bipush 45, 2) := by decide +kernel
theorem e108_78 {d : Nat} {l0 l1 l2 l3 l4 : Option Value} {s0 : Int32} {σ : ab_St} {Q : Option Value → ab_St → Prop} : Ev d 108 78 [l0, l1, l2, l3, l4] [.int s0] σ Q = Ev d 108 80 [l0, l1, l2, l3, l4] [.int 45, .int s0] σ Q := ev_A1 d108_78 rfl
theorem d108_80 : decode (ab_C 108) 80 = .ok (.if_icmp .ne 8, 3) := by decide +kernel
theorem e108_80 {d : Nat} {l0 l1 l2 l3 l4 : Option Value} {s0 : Int32} {s1 : Int32} {σ : ab_St} {Q : Option Value → ab_St → Prop} : Ev d 108 80 [l0, l1, l2, l3, l4] [.int s0, .int s1] σ Q = if s1 = s0 then Ev d 108 83 [l0, l1, l2, l3, l4] [] σ Q else Ev d 108 88 [l0, l1, l2, l3, l4] [] σ Q := ev_B (c := s1 = s0) d108_80 rfl rfl rfl rfl rfl
theorem d108_83 : decode (ab_C 108) 83 = .ok (.bipush (-9), 2) := by decide +kernel
theorem e108_83 {d : Nat} {l0 l1 l2 l3 l4 : Option Value} {σ : ab_St} {Q : Option Value → ab_St → Prop} : Ev d 108 83 [l0, l1, l2, l3, l4] [] σ Q = Ev d 108 85 [l0, l1, l2, l3, l4] [.int (-9)] σ Q := ev_A1 d108_83 rfl
theorem d108_85 : decode (ab_C 108) 85 = .ok (.goto 15, 3) := by decide +kernel
theorem e108_85 {d : Nat} {l0 l1 l2 l3 l4 : Option Value} {s0 : Int32} {σ : ab_St} {Q : Option Value → ab_St → Prop} : Ev d 108 85 [l0, l1, l2, l3, l4] [.int s0] σ Q = Ev d 108 100 [l0, l1, l2, l3, l4] [.int s0] σ Q := ev_J d108_85 rfl rfl rfl rfl rfl
theorem d108_88 : decode (ab_C 108) 88 = .ok (.aload_n 0, 1) := by decide +kernel
theorem e108_88 {d : Nat} {l1 l2 l3 l4 : Option Value} {x : Nat} {σ : ab_St} {Q : Option Value → ab_St → Prop} : Ev d 108 88 [some (.ref x), l1, l2, l3, l4] [] σ Q = Ev d 108 89 [some (.ref x), l1, l2, l3, l4] [.ref x] σ Q := ev_A1 d108_88 rfl
theorem d108_89 : decode (ab_C 108) 89 = .ok (.getfield 7, 3) := by decide +kernel
theorem e108_89 {d : Nat} {l0 l1 l2 l3 l4 : Option Value} {s0 : Nat} {σ : ab_St} {Q : Option Value → ab_St → Prop} : Ev d 108 89 [l0, l1, l2, l3, l4] [.ref s0] σ Q = (ab_k s0 = 10 ∧ Ev d 108 92 [l0, l1, l2, l3, l4] [.ref (ab_r s0 1)] σ Q) := ev_Hc (c := ab_k s0 = 10) d108_89 rfl rfl rfl rfl rfl rfl rfl rfl
theorem d108_92 : decode (ab_C 108) 92 = .ok (.aload_n 0, 1) := by decide +kernel
theorem e108_92 {d : Nat} {l1 l2 l3 l4 : Option Value} {x : Nat} {s0 : Nat} {σ : ab_St} {Q : Option Value → ab_St → Prop} : Ev d 108 92 [some (.ref x), l1, l2, l3, l4] [.ref s0] σ Q = Ev d 108 93 [some (.ref x), l1, l2, l3, l4] [.ref x, .ref s0] σ Q := ev_A1 d108_92 rfl
theorem d108_93 : decode (ab_C 108) 93 = .ok (.getfield 97, 3) := by decide +kernel
theorem e108_93 {d : Nat} {l0 l1 l2 l3 l4 : Option Value} {s0 : Nat} {s1 : Nat} {σ : ab_St} {Q : Option Value → ab_St → Prop} : Ev d 108 93 [l0, l1, l2, l3, l4] [.ref s0, .ref s1] σ Q = (ab_k s0 = 10 ∧ Ev d 108 96 [l0, l1, l2, l3, l4] [.int (σ.1 s0 3), .ref s1] σ Q) := ev_Hc (c := ab_k s0 = 10) d108_93 rfl rfl rfl rfl rfl rfl rfl rfl
theorem d108_96 : decode (ab_C 108) 96 = .ok (.iaload, 1) := by decide +kernel
theorem e108_96 {d : Nat} {l0 l1 l2 l3 l4 : Option Value} {s0 : Int32} {s1 : Nat} {σ : ab_St} {Q : Option Value → ab_St → Prop} : Ev d 108 96 [l0, l1, l2, l3, l4] [.int s0, .ref s1] σ Q = ((ab_k s1 = 100 ∧ ab_in s0 (ab_n s1)) ∧ Ev d 108 97 [l0, l1, l2, l3, l4] [.int (σ.1 s1 s0.toNatClampNeg)] σ Q) := ev_Hc (c := ab_k s1 = 100 ∧ ab_in s0 (ab_n s1)) d108_96 rfl rfl rfl rfl rfl rfl rfl rfl
theorem d108_97 : decode (ab_C 108) 97 = .ok (.bipush 48, 2) := by decide +kernel
theorem e108_97 {d : Nat} {l0 l1 l2 l3 l4 : Option Value} {s0 : Int32} {σ : ab_St} {Q : Option Value → ab_St → Prop} : Ev d 108 97 [l0, l1, l2, l3, l4] [.int s0] σ Q = Ev d 108 99 [l0, l1, l2, l3, l4] [.int 48, .int s0] σ Q := ev_A1 d108_97 rfl
theorem d108_99 : decode (ab_C 108) 99 = .ok (.isub, 1) := by decide +kernel
theorem e108_99 {d : Nat} {l0 l1 l2 l3 l4 : Option Value} {s0 : Int32} {s1 : Int32} {σ : ab_St} {Q : Option Value → ab_St → Prop} : Ev d 108 99 [l0, l1, l2, l3, l4] [.int s0, .int s1] σ Q = Ev d 108 100 [l0, l1, l2, l3, l4] [.int (s1 - s0)] σ Q := ev_A2 d108_99 rfl rfl
theorem d108_100 : decode (ab_C 108) 100 = .ok (.istore 4, 2) := by decide +kernel
theorem e108_100 {d : Nat} {l0 l1 l2 l3 l4 : Option Value} {s0 : Int32} {σ : ab_St} {Q : Option Value → ab_St → Prop} : Ev d 108 100 [l0, l1, l2, l3, l4] [.int s0] σ Q = Ev d 108 102 [l0, l1, l2, l3, some (.int s0)] [] σ Q := ev_S d108_100 rfl rfl rfl rfl
theorem d108_102 : decode (ab_C 108) 102 = .ok (.aload_n 0, 1) := by decide +kernel
theorem e108_102 {d : Nat} {l1 l2 l3 l4 : Option Value} {x : Nat} {σ : ab_St} {Q : Option Value → ab_St → Prop} : Ev d 108 102 [some (.ref x), l1, l2, l3, l4] [] σ Q = Ev d 108 103 [some (.ref x), l1, l2, l3, l4] [.ref x] σ Q := ev_A1 d108_102 rfl
theorem d108_103 : decode (ab_C 108) 103 = .ok (.getfield 7, 3) := by decide +kernel
theorem e108_103 {d : Nat} {l0 l1 l2 l3 l4 : Option Value} {s0 : Nat} {σ : ab_St} {Q : Option Value → ab_St → Prop} : Ev d 108 103 [l0, l1, l2, l3, l4] [.ref s0] σ Q = (ab_k s0 = 10 ∧ Ev d 108 106 [l0, l1, l2, l3, l4] [.ref (ab_r s0 1)] σ Q) := ev_Hc (c := ab_k s0 = 10) d108_103 rfl rfl rfl rfl rfl rfl rfl rfl
theorem d108_106 : decode (ab_C 108) 106 = .ok (.aload_n 0, 1) := by decide +kernel
theorem e108_106 {d : Nat} {l1 l2 l3 l4 : Option Value} {x : Nat} {s0 : Nat} {σ : ab_St} {Q : Option Value → ab_St → Prop} : Ev d 108 106 [some (.ref x), l1, l2, l3, l4] [.ref s0] σ Q = Ev d 108 107 [some (.ref x), l1, l2, l3, l4] [.ref x, .ref s0] σ Q := ev_A1 d108_106 rfl
theorem d108_107 : decode (ab_C 108) 107 = .ok (.getfield 97, 3) := by decide +kernel
theorem e108_107 {d : Nat} {l0 l1 l2 l3 l4 : Option Value} {s0 : Nat} {s1 : Nat} {σ : ab_St} {Q : Option Value → ab_St → Prop} : Ev d 108 107 [l0, l1, l2, l3, l4] [.ref s0, .ref s1] σ Q = (ab_k s0 = 10 ∧ Ev d 108 110 [l0, l1, l2, l3, l4] [.int (σ.1 s0 3), .ref s1] σ Q) := ev_Hc (c := ab_k s0 = 10) d108_107 rfl rfl rfl rfl rfl rfl rfl rfl
theorem d108_110 : decode (ab_C 108) 110 = .ok (.iaload, 1) := by decide +kernel
theorem e108_110 {d : Nat} {l0 l1 l2 l3 l4 : Option Value} {s0 : Int32} {s1 : Nat} {σ : ab_St} {Q : Option Value → ab_St → Prop} : Ev d 108 110 [l0, l1, l2, l3, l4] [.int s0, .ref s1] σ Q = ((ab_k s1 = 100 ∧ ab_in s0 (ab_n s1)) ∧ Ev d 108 111 [l0, l1, l2, l3, l4] [.int (σ.1 s1 s0.toNatClampNeg)] σ Q) := ev_Hc (c := ab_k s1 = 100 ∧ ab_in s0 (ab_n s1)) d108_110 rfl rfl rfl rfl rfl rfl rfl rfl
theorem d108_111 : decode (ab_C 108) 111 = .ok (.bipush 45, 2) := by decide +kernel
theorem e108_111 {d : Nat} {l0 l1 l2 l3 l4 : Option Value} {s0 : Int32} {σ : ab_St} {Q : Option Value → ab_St → Prop} : Ev d 108 111 [l0, l1, l2, l3, l4] [.int s0] σ Q = Ev d 108 113 [l0, l1, l2, l3, l4] [.int 45, .int s0] σ Q := ev_A1 d108_111 rfl
theorem d108_113 : decode (ab_C 108) 113 = .ok (.if_icmp .eq 31, 3) := by decide +kernel
theorem e108_113 {d : Nat} {l0 l1 l2 l3 l4 : Option Value} {s0 : Int32} {s1 : Int32} {σ : ab_St} {Q : Option Value → ab_St → Prop} : Ev d 108 113 [l0, l1, l2, l3, l4] [.int s0, .int s1] σ Q = if s1 = s0 then Ev d 108 144 [l0, l1, l2, l3, l4] [] σ Q else Ev d 108 116 [l0, l1, l2, l3, l4] [] σ Q := ev_B (c := s1 = s0) d108_113 rfl rfl rfl rfl rfl
theorem d108_116 : decode (ab_C 108) 116 = .ok (.iload 4, 2) := by decide +kernel
theorem e108_116 {d : Nat} {l0 l1 l2 l3 : Option Value} {x : Int32} {σ : ab_St} {Q : Option Value → ab_St → Prop} : Ev d 108 116 [l0, l1, l2, l3, some (.int x)] [] σ Q = Ev d 108 118 [l0, l1, l2, l3, some (.int x)] [.int x] σ Q := ev_A1 d108_116 rfl
theorem d108_118 : decode (ab_C 108) 118 = .ok (.i2l, 1) := by decide +kernel
theorem e108_118 {d : Nat} {l0 l1 l2 l3 l4 : Option Value} {s0 : Int32} {σ : ab_St} {Q : Option Value → ab_St → Prop} : Ev d 108 118 [l0, l1, l2, l3, l4] [.int s0] σ Q = Ev d 108 119 [l0, l1, l2, l3, l4] [.long s0.toInt64] σ Q := ev_A2 d108_118 rfl rfl
theorem d108_119 : decode (ab_C 108) 119 = .ok (.lconst 0, 1) := by decide +kernel
theorem e108_119 {d : Nat} {l0 l1 l2 l3 l4 : Option Value} {s0 : Int64} {σ : ab_St} {Q : Option Value → ab_St → Prop} : Ev d 108 119 [l0, l1, l2, l3, l4] [.long s0] σ Q = Ev d 108 120 [l0, l1, l2, l3, l4] [.long 0, .long s0] σ Q := ev_A1 d108_119 rfl
theorem d108_120 : decode (ab_C 108) 120 = .ok (.aload_n 0, 1) := by decide +kernel
theorem e108_120 {d : Nat} {l1 l2 l3 l4 : Option Value} {x : Nat} {s0 : Int64} {s1 : Int64} {σ : ab_St} {Q : Option Value → ab_St → Prop} : Ev d 108 120 [some (.ref x), l1, l2, l3, l4] [.long s0, .long s1] σ Q = Ev d 108 121 [some (.ref x), l1, l2, l3, l4] [.ref x, .long s0, .long s1] σ Q := ev_A1 d108_120 rfl
theorem d108_121 : decode (ab_C 108) 121 = .ok (.getfield 110, 3) := by decide +kernel
theorem e108_121 {d : Nat} {l0 l1 l2 l3 l4 : Option Value} {s0 : Nat} {s1 : Int64} {s2 : Int64} {σ : ab_St} {Q : Option Value → ab_St → Prop} : Ev d 108 121 [l0, l1, l2, l3, l4] [.ref s0, .long s1, .long s2] σ Q = (ab_k s0 = 10 ∧ Ev d 108 124 [l0, l1, l2, l3, l4] [.int (σ.1 s0 19), .long s1, .long s2] σ Q) := ev_Hc (c := ab_k s0 = 10) d108_121 rfl rfl rfl rfl rfl rfl rfl rfl
theorem d108_124 : decode (ab_C 108) 124 = .ok (.iconst 1, 1) := by decide +kernel
theorem e108_124 {d : Nat} {l0 l1 l2 l3 l4 : Option Value} {s0 : Int32} {s1 : Int64} {s2 : Int64} {σ : ab_St} {Q : Option Value → ab_St → Prop} : Ev d 108 124 [l0, l1, l2, l3, l4] [.int s0, .long s1, .long s2] σ Q = Ev d 108 125 [l0, l1, l2, l3, l4] [.int 1, .int s0, .long s1, .long s2] σ Q := ev_A1 d108_124 rfl
theorem d108_125 : decode (ab_C 108) 125 = .ok (.isub, 1) := by decide +kernel
theorem e108_125 {d : Nat} {l0 l1 l2 l3 l4 : Option Value} {s0 : Int32} {s1 : Int32} {s2 : Int64} {s3 : Int64} {σ : ab_St} {Q : Option Value → ab_St → Prop} : Ev d 108 125 [l0, l1, l2, l3, l4] [.int s0, .int s1, .long s2, .long s3] σ Q = Ev d 108 126 [l0, l1, l2, l3, l4] [.int (s1 - s0), .long s2, .long s3] σ Q := ev_A2 d108_125 rfl rfl
theorem d108_126 : decode (ab_C 108) 126 = .ok (.i2l, 1) := by decide +kernel
theorem e108_126 {d : Nat} {l0 l1 l2 l3 l4 : Option Value} {s0 : Int32} {s1 : Int64} {s2 : Int64} {σ : ab_St} {Q : Option Value → ab_St → Prop} : Ev d 108 126 [l0, l1, l2, l3, l4] [.int s0, .long s1, .long s2] σ Q = Ev d 108 127 [l0, l1, l2, l3, l4] [.long s0.toInt64, .long s1, .long s2] σ Q := ev_A2 d108_126 rfl rfl
theorem d108_127 : decode (ab_C 108) 127 = .ok (.invokestatic 85, 3) := by decide +kernel
theorem e108_127 {d : Nat} {l0 l1 l2 l3 l4 : Option Value} {s0 : Int64} {s1 : Int64} {s2 : Int64} {σ : ab_St} {Q : Option Value → ab_St → Prop} : Ev (d + 1) 108 127 [l0, l1, l2, l3, l4] [.long s0, .long s1, .long s2] σ Q = Ev d 101 0 [some (.long s2), none, some (.long s1), none, some (.long s0), none] [] σ (fun r σ2 => Ev (d + 1) 108 130 [l0, l1, l2, l3, l4] (r.toList ++ []) σ2 Q) := ev_K0 (y := 101) (ls := [l0, l1, l2, l3, l4]) (st := [.long s0, .long s1, .long s2]) (as := [.long s2, .long s1, .long s0]) (rest := []) d108_127 rfl rfl rfl rfl rfl rfl rfl rfl
theorem d108_130 : decode (ab_C 108) 130 = .ok (.ifCond .eq 12, 3) := by decide +kernel
theorem e108_130 {d : Nat} {l0 l1 l2 l3 l4 : Option Value} {s0 : Int32} {σ : ab_St} {Q : Option Value → ab_St → Prop} : Ev d 108 130 [l0, l1, l2, l3, l4] [.int s0] σ Q = if s0 = 0 then Ev d 108 142 [l0, l1, l2, l3, l4] [] σ Q else Ev d 108 133 [l0, l1, l2, l3, l4] [] σ Q := ev_B (c := s0 = 0) d108_130 rfl rfl rfl rfl rfl
theorem d108_133 : decode (ab_C 108) 133 = .ok (.aload_n 0, 1) := by decide +kernel
theorem e108_133 {d : Nat} {l1 l2 l3 l4 : Option Value} {x : Nat} {σ : ab_St} {Q : Option Value → ab_St → Prop} : Ev d 108 133 [some (.ref x), l1, l2, l3, l4] [] σ Q = Ev d 108 134 [some (.ref x), l1, l2, l3, l4] [.ref x] σ Q := ev_A1 d108_133 rfl
theorem d108_134 : decode (ab_C 108) 134 = .ok (.iload 4, 2) := by decide +kernel
theorem e108_134 {d : Nat} {l0 l1 l2 l3 : Option Value} {x : Int32} {s0 : Nat} {σ : ab_St} {Q : Option Value → ab_St → Prop} : Ev d 108 134 [l0, l1, l2, l3, some (.int x)] [.ref s0] σ Q = Ev d 108 136 [l0, l1, l2, l3, some (.int x)] [.int x, .ref s0] σ Q := ev_A1 d108_134 rfl
theorem d108_136 : decode (ab_C 108) 136 = .ok (.invokevirtual 113, 3) := by decide +kernel
theorem e108_136 {d : Nat} {l0 l1 l2 l3 l4 : Option Value} {s0 : Int32} {s1 : Nat} {σ : ab_St} {Q : Option Value → ab_St → Prop} : Ev (d + 1) 108 136 [l0, l1, l2, l3, l4] [.int s0, .ref s1] σ Q = (ab_k s1 = 10 ∧ Ev d 109 0 [some (.ref s1), some (.int s0), none, none] [] σ (fun r σ2 => Ev (d + 1) 108 139 [l0, l1, l2, l3, l4] (r.toList ++ []) σ2 Q)) := ev_KV (b := s1) (ls := [l0, l1, l2, l3, l4]) (st := [.int s0, .ref s1]) (as := [.int s0]) (rest := []) d108_136 rfl rfl rfl (Nat.le_of_ble_eq_true rfl) (Nat.le_of_ble_eq_true rfl) (Nat.le_of_ble_eq_true rfl) rfl rfl rfl rfl rfl rfl rfl
theorem d108_139 : decode (ab_C 108) 139 = .ok (.ifCond .eq 5, 3) := by decide +kernel
theorem e108_139 {d : Nat} {l0 l1 l2 l3 l4 : Option Value} {s0 : Int32} {σ : ab_St} {Q : Option Value → ab_St → Prop} : Ev d 108 139 [l0, l1, l2, l3, l4] [.int s0] σ Q = if s0 = 0 then Ev d 108 144 [l0, l1, l2, l3, l4] [] σ Q else Ev d 108 142 [l0, l1, l2, l3, l4] [] σ Q := ev_B (c := s0 = 0) d108_139 rfl rfl rfl rfl rfl
theorem d108_142 : decode (ab_C 108) 142 = .ok (.iconst 0, 1) := by decide +kernel
theorem e108_142 {d : Nat} {l0 l1 l2 l3 l4 : Option Value} {σ : ab_St} {Q : Option Value → ab_St → Prop} : Ev d 108 142 [l0, l1, l2, l3, l4] [] σ Q = Ev d 108 143 [l0, l1, l2, l3, l4] [.int 0] σ Q := ev_A1 d108_142 rfl
theorem d108_143 : decode (ab_C 108) 143 = .ok (.ireturn, 1) := by decide +kernel
theorem e108_143 {d : Nat} {l0 l1 l2 l3 l4 : Option Value} {s0 : Int32} {σ : ab_St} {Q : Option Value → ab_St → Prop} : Ev d 108 143 [l0, l1, l2, l3, l4] [.int s0] σ Q = ((s0 = 0 ∨ s0 = 1) ∧ Q (some (.int s0)) σ) := ev_Z d108_143 rfl
theorem d108_144 : decode (ab_C 108) 144 = .ok (.aload_n 0, 1) := by decide +kernel
theorem e108_144 {d : Nat} {l1 l2 l3 l4 : Option Value} {x : Nat} {σ : ab_St} {Q : Option Value → ab_St → Prop} : Ev d 108 144 [some (.ref x), l1, l2, l3, l4] [] σ Q = Ev d 108 145 [some (.ref x), l1, l2, l3, l4] [.ref x] σ Q := ev_A1 d108_144 rfl
theorem d108_145 : decode (ab_C 108) 145 = .ok (.dup, 1) := by decide +kernel
theorem e108_145 {d : Nat} {l0 l1 l2 l3 l4 : Option Value} {s0 : Nat} {σ : ab_St} {Q : Option Value → ab_St → Prop} : Ev d 108 145 [l0, l1, l2, l3, l4] [.ref s0] σ Q = Ev d 108 146 [l0, l1, l2, l3, l4] [.ref s0, .ref s0] σ Q := ev_A1 d108_145 rfl
theorem d108_146 : decode (ab_C 108) 146 = .ok (.getfield 97, 3) := by decide +kernel
theorem e108_146 {d : Nat} {l0 l1 l2 l3 l4 : Option Value} {s0 : Nat} {s1 : Nat} {σ : ab_St} {Q : Option Value → ab_St → Prop} : Ev d 108 146 [l0, l1, l2, l3, l4] [.ref s0, .ref s1] σ Q = (ab_k s0 = 10 ∧ Ev d 108 149 [l0, l1, l2, l3, l4] [.int (σ.1 s0 3), .ref s1] σ Q) := ev_Hc (c := ab_k s0 = 10) d108_146 rfl rfl rfl rfl rfl rfl rfl rfl
theorem d108_149 : decode (ab_C 108) 149 = .ok (.iconst 1, 1) := by decide +kernel
theorem e108_149 {d : Nat} {l0 l1 l2 l3 l4 : Option Value} {s0 : Int32} {s1 : Nat} {σ : ab_St} {Q : Option Value → ab_St → Prop} : Ev d 108 149 [l0, l1, l2, l3, l4] [.int s0, .ref s1] σ Q = Ev d 108 150 [l0, l1, l2, l3, l4] [.int 1, .int s0, .ref s1] σ Q := ev_A1 d108_149 rfl
theorem d108_150 : decode (ab_C 108) 150 = .ok (.iadd, 1) := by decide +kernel
theorem e108_150 {d : Nat} {l0 l1 l2 l3 l4 : Option Value} {s0 : Int32} {s1 : Int32} {s2 : Nat} {σ : ab_St} {Q : Option Value → ab_St → Prop} : Ev d 108 150 [l0, l1, l2, l3, l4] [.int s0, .int s1, .ref s2] σ Q = Ev d 108 151 [l0, l1, l2, l3, l4] [.int (s1 + s0), .ref s2] σ Q := ev_A2 d108_150 rfl rfl
theorem d108_151 : decode (ab_C 108) 151 = .ok (.putfield 97, 3) := by decide +kernel
theorem e108_151 {d : Nat} {l0 l1 l2 l3 l4 : Option Value} {s0 : Int32} {s1 : Nat} {σ : ab_St} {Q : Option Value → ab_St → Prop} : Ev d 108 151 [l0, l1, l2, l3, l4] [.int s0, .ref s1] σ Q = (ab_k s1 = 10 ∧ Ev d 108 154 [l0, l1, l2, l3, l4] [] (ab_wI σ s1 (upd (σ.1 s1) 3 s0)) Q) := ev_Hc (c := ab_k s1 = 10) d108_151 rfl rfl rfl rfl rfl rfl rfl rfl
theorem d108_154 : decode (ab_C 108) 154 = .ok (.aload_n 0, 1) := by decide +kernel
theorem e108_154 {d : Nat} {l1 l2 l3 l4 : Option Value} {x : Nat} {σ : ab_St} {Q : Option Value → ab_St → Prop} : Ev d 108 154 [some (.ref x), l1, l2, l3, l4] [] σ Q = Ev d 108 155 [some (.ref x), l1, l2, l3, l4] [.ref x] σ Q := ev_A1 d108_154 rfl
theorem d108_155 : decode (ab_C 108) 155 = .ok (.getfield 35, 3) := by decide +kernel
theorem e108_155 {d : Nat} {l0 l1 l2 l3 l4 : Option Value} {s0 : Nat} {σ : ab_St} {Q : Option Value → ab_St → Prop} : Ev d 108 155 [l0, l1, l2, l3, l4] [.ref s0] σ Q = (ab_k s0 = 10 ∧ Ev d 108 158 [l0, l1, l2, l3, l4] [.ref (ab_r s0 20)] σ Q) := ev_Hc (c := ab_k s0 = 10) d108_155 rfl rfl rfl rfl rfl rfl rfl rfl
theorem d108_158 : decode (ab_C 108) 158 = .ok (.aload_n 0, 1) := by decide +kernel
theorem e108_158 {d : Nat} {l1 l2 l3 l4 : Option Value} {x : Nat} {s0 : Nat} {σ : ab_St} {Q : Option Value → ab_St → Prop} : Ev d 108 158 [some (.ref x), l1, l2, l3, l4] [.ref s0] σ Q = Ev d 108 159 [some (.ref x), l1, l2, l3, l4] [.ref x, .ref s0] σ Q := ev_A1 d108_158 rfl
theorem d108_159 : decode (ab_C 108) 159 = .ok (.getfield 110, 3) := by decide +kernel
theorem e108_159 {d : Nat} {l0 l1 l2 l3 l4 : Option Value} {s0 : Nat} {s1 : Nat} {σ : ab_St} {Q : Option Value → ab_St → Prop} : Ev d 108 159 [l0, l1, l2, l3, l4] [.ref s0, .ref s1] σ Q = (ab_k s0 = 10 ∧ Ev d 108 162 [l0, l1, l2, l3, l4] [.int (σ.1 s0 19), .ref s1] σ Q) := ev_Hc (c := ab_k s0 = 10) d108_159 rfl rfl rfl rfl rfl rfl rfl rfl
theorem d108_162 : decode (ab_C 108) 162 = .ok (.iload_n 1, 1) := by decide +kernel
theorem e108_162 {d : Nat} {l0 l2 l3 l4 : Option Value} {x : Int32} {s0 : Int32} {s1 : Nat} {σ : ab_St} {Q : Option Value → ab_St → Prop} : Ev d 108 162 [l0, some (.int x), l2, l3, l4] [.int s0, .ref s1] σ Q = Ev d 108 163 [l0, some (.int x), l2, l3, l4] [.int x, .int s0, .ref s1] σ Q := ev_A1 d108_162 rfl
theorem d108_163 : decode (ab_C 108) 163 = .ok (.iastore, 1) := by decide +kernel
theorem e108_163 {d : Nat} {l0 l1 l2 l3 l4 : Option Value} {s0 : Int32} {s1 : Int32} {s2 : Nat} {σ : ab_St} {Q : Option Value → ab_St → Prop} : Ev d 108 163 [l0, l1, l2, l3, l4] [.int s0, .int s1, .ref s2] σ Q = ((ab_k s2 = 100 ∧ ab_in s1 (ab_n s2)) ∧ Ev d 108 164 [l0, l1, l2, l3, l4] [] (ab_wI σ s2 (upd (σ.1 s2) s1.toNatClampNeg s0)) Q) := ev_Hc (c := ab_k s2 = 100 ∧ ab_in s1 (ab_n s2)) d108_163 rfl rfl rfl rfl rfl rfl rfl rfl
theorem d108_164 : decode (ab_C 108) 164 = .ok (.aload_n 0, 1) := by decide +kernel
theorem e108_164 {d : Nat} {l1 l2 l3 l4 : Option Value} {x : Nat} {σ : ab_St} {Q : Option Value → ab_St → Prop} : Ev d 108 164 [some (.ref x), l1, l2, l3, l4] [] σ Q = Ev d 108 165 [some (.ref x), l1, l2, l3, l4] [.ref x] σ Q := ev_A1 d108_164 rfl
theorem d108_165 : decode (ab_C 108) 165 = .ok (.getfield 38, 3) := by decide +kernel
theorem e108_165 {d : Nat} {l0 l1 l2 l3 l4 : Option Value} {s0 : Nat} {σ : ab_St} {Q : Option Value → ab_St → Prop} : Ev d 108 165 [l0, l1, l2, l3, l4] [.ref s0] σ Q = (ab_k s0 = 10 ∧ Ev d 108 168 [l0, l1, l2, l3, l4] [.ref (ab_r s0 21)] σ Q) := ev_Hc (c := ab_k s0 = 10) d108_165 rfl rfl rfl rfl rfl rfl rfl rfl
theorem d108_168 : decode (ab_C 108) 168 = .ok (.aload_n 0, 1) := by decide +kernel
theorem e108_168 {d : Nat} {l1 l2 l3 l4 : Option Value} {x : Nat} {s0 : Nat} {σ : ab_St} {Q : Option Value → ab_St → Prop} : Ev d 108 168 [some (.ref x), l1, l2, l3, l4] [.ref s0] σ Q = Ev d 108 169 [some (.ref x), l1, l2, l3, l4] [.ref x, .ref s0] σ Q := ev_A1 d108_168 rfl
theorem d108_169 : decode (ab_C 108) 169 = .ok (.getfield 110, 3) := by decide +kernel
theorem e108_169 {d : Nat} {l0 l1 l2 l3 l4 : Option Value} {s0 : Nat} {s1 : Nat} {σ : ab_St} {Q : Option Value → ab_St → Prop} : Ev d 108 169 [l0, l1, l2, l3, l4] [.ref s0, .ref s1] σ Q = (ab_k s0 = 10 ∧ Ev d 108 172 [l0, l1, l2, l3, l4] [.int (σ.1 s0 19), .ref s1] σ Q) := ev_Hc (c := ab_k s0 = 10) d108_169 rfl rfl rfl rfl rfl rfl rfl rfl
theorem d108_172 : decode (ab_C 108) 172 = .ok (.iload_n 2, 1) := by decide +kernel
theorem e108_172 {d : Nat} {l0 l1 l3 l4 : Option Value} {x : Int32} {s0 : Int32} {s1 : Nat} {σ : ab_St} {Q : Option Value → ab_St → Prop} : Ev d 108 172 [l0, l1, some (.int x), l3, l4] [.int s0, .ref s1] σ Q = Ev d 108 173 [l0, l1, some (.int x), l3, l4] [.int x, .int s0, .ref s1] σ Q := ev_A1 d108_172 rfl
theorem d108_173 : decode (ab_C 108) 173 = .ok (.iastore, 1) := by decide +kernel
theorem e108_173 {d : Nat} {l0 l1 l2 l3 l4 : Option Value} {s0 : Int32} {s1 : Int32} {s2 : Nat} {σ : ab_St} {Q : Option Value → ab_St → Prop} : Ev d 108 173 [l0, l1, l2, l3, l4] [.int s0, .int s1, .ref s2] σ Q = ((ab_k s2 = 100 ∧ ab_in s1 (ab_n s2)) ∧ Ev d 108 174 [l0, l1, l2, l3, l4] [] (ab_wI σ s2 (upd (σ.1 s2) s1.toNatClampNeg s0)) Q) := ev_Hc (c := ab_k s2 = 100 ∧ ab_in s1 (ab_n s2)) d108_173 rfl rfl rfl rfl rfl rfl rfl rfl
theorem d108_174 : decode (ab_C 108) 174 = .ok (.aload_n 0, 1) := by decide +kernel
theorem e108_174 {d : Nat} {l1 l2 l3 l4 : Option Value} {x : Nat} {σ : ab_St} {Q : Option Value → ab_St → Prop} : Ev d 108 174 [some (.ref x), l1, l2, l3, l4] [] σ Q = Ev d 108 175 [some (.ref x), l1, l2, l3, l4] [.ref x] σ Q := ev_A1 d108_174 rfl
theorem d108_175 : decode (ab_C 108) 175 = .ok (.getfield 41, 3) := by decide +kernel
theorem e108_175 {d : Nat} {l0 l1 l2 l3 l4 : Option Value} {s0 : Nat} {σ : ab_St} {Q : Option Value → ab_St → Prop} : Ev d 108 175 [l0, l1, l2, l3, l4] [.ref s0] σ Q = (ab_k s0 = 10 ∧ Ev d 108 178 [l0, l1, l2, l3, l4] [.ref (ab_r s0 22)] σ Q) := ev_Hc (c := ab_k s0 = 10) d108_175 rfl rfl rfl rfl rfl rfl rfl rfl
theorem d108_178 : decode (ab_C 108) 178 = .ok (.aload_n 0, 1) := by decide +kernel
theorem e108_178 {d : Nat} {l1 l2 l3 l4 : Option Value} {x : Nat} {s0 : Nat} {σ : ab_St} {Q : Option Value → ab_St → Prop} : Ev d 108 178 [some (.ref x), l1, l2, l3, l4] [.ref s0] σ Q = Ev d 108 179 [some (.ref x), l1, l2, l3, l4] [.ref x, .ref s0] σ Q := ev_A1 d108_178 rfl
theorem d108_179 : decode (ab_C 108) 179 = .ok (.getfield 110, 3) := by decide +kernel
theorem e108_179 {d : Nat} {l0 l1 l2 l3 l4 : Option Value} {s0 : Nat} {s1 : Nat} {σ : ab_St} {Q : Option Value → ab_St → Prop} : Ev d 108 179 [l0, l1, l2, l3, l4] [.ref s0, .ref s1] σ Q = (ab_k s0 = 10 ∧ Ev d 108 182 [l0, l1, l2, l3, l4] [.int (σ.1 s0 19), .ref s1] σ Q) := ev_Hc (c := ab_k s0 = 10) d108_179 rfl rfl rfl rfl rfl rfl rfl rfl
theorem d108_182 : decode (ab_C 108) 182 = .ok (.iload_n 3, 1) := by decide +kernel
theorem e108_182 {d : Nat} {l0 l1 l2 l4 : Option Value} {x : Int32} {s0 : Int32} {s1 : Nat} {σ : ab_St} {Q : Option Value → ab_St → Prop} : Ev d 108 182 [l0, l1, l2, some (.int x), l4] [.int s0, .ref s1] σ Q = Ev d 108 183 [l0, l1, l2, some (.int x), l4] [.int x, .int s0, .ref s1] σ Q := ev_A1 d108_182 rfl
theorem d108_183 : decode (ab_C 108) 183 = .ok (.iastore, 1) := by decide +kernel
theorem e108_183 {d : Nat} {l0 l1 l2 l3 l4 : Option Value} {s0 : Int32} {s1 : Int32} {s2 : Nat} {σ : ab_St} {Q : Option Value → ab_St → Prop} : Ev d 108 183 [l0, l1, l2, l3, l4] [.int s0, .int s1, .ref s2] σ Q = ((ab_k s2 = 100 ∧ ab_in s1 (ab_n s2)) ∧ Ev d 108 184 [l0, l1, l2, l3, l4] [] (ab_wI σ s2 (upd (σ.1 s2) s1.toNatClampNeg s0)) Q) := ev_Hc (c := ab_k s2 = 100 ∧ ab_in s1 (ab_n s2)) d108_183 rfl rfl rfl rfl rfl rfl rfl rfl
theorem d108_184 : decode (ab_C 108) 184 = .ok (.aload_n 0, 1) := by decide +kernel
theorem e108_184 {d : Nat} {l1 l2 l3 l4 : Option Value} {x : Nat} {σ : ab_St} {Q : Option Value → ab_St → Prop} : Ev d 108 184 [some (.ref x), l1, l2, l3, l4] [] σ Q = Ev d 108 185 [some (.ref x), l1, l2, l3, l4] [.ref x] σ Q := ev_A1 d108_184 rfl
theorem d108_185 : decode (ab_C 108) 185 = .ok (.getfield 44, 3) := by decide +kernel
theorem e108_185 {d : Nat} {l0 l1 l2 l3 l4 : Option Value} {s0 : Nat} {σ : ab_St} {Q : Option Value → ab_St → Prop} : Ev d 108 185 [l0, l1, l2, l3, l4] [.ref s0] σ Q = (ab_k s0 = 10 ∧ Ev d 108 188 [l0, l1, l2, l3, l4] [.ref (ab_r s0 23)] σ Q) := ev_Hc (c := ab_k s0 = 10) d108_185 rfl rfl rfl rfl rfl rfl rfl rfl
theorem d108_188 : decode (ab_C 108) 188 = .ok (.aload_n 0, 1) := by decide +kernel
theorem e108_188 {d : Nat} {l1 l2 l3 l4 : Option Value} {x : Nat} {s0 : Nat} {σ : ab_St} {Q : Option Value → ab_St → Prop} : Ev d 108 188 [some (.ref x), l1, l2, l3, l4] [.ref s0] σ Q = Ev d 108 189 [some (.ref x), l1, l2, l3, l4] [.ref x, .ref s0] σ Q := ev_A1 d108_188 rfl
theorem d108_189 : decode (ab_C 108) 189 = .ok (.getfield 110, 3) := by decide +kernel
theorem e108_189 {d : Nat} {l0 l1 l2 l3 l4 : Option Value} {s0 : Nat} {s1 : Nat} {σ : ab_St} {Q : Option Value → ab_St → Prop} : Ev d 108 189 [l0, l1, l2, l3, l4] [.ref s0, .ref s1] σ Q = (ab_k s0 = 10 ∧ Ev d 108 192 [l0, l1, l2, l3, l4] [.int (σ.1 s0 19), .ref s1] σ Q) := ev_Hc (c := ab_k s0 = 10) d108_189 rfl rfl rfl rfl rfl rfl rfl rfl
theorem d108_192 : decode (ab_C 108) 192 = .ok (.iload 4, 2) := by decide +kernel
theorem e108_192 {d : Nat} {l0 l1 l2 l3 : Option Value} {x : Int32} {s0 : Int32} {s1 : Nat} {σ : ab_St} {Q : Option Value → ab_St → Prop} : Ev d 108 192 [l0, l1, l2, l3, some (.int x)] [.int s0, .ref s1] σ Q = Ev d 108 194 [l0, l1, l2, l3, some (.int x)] [.int x, .int s0, .ref s1] σ Q := ev_A1 d108_192 rfl
theorem d108_194 : decode (ab_C 108) 194 = .ok (.iastore, 1) := by decide +kernel
theorem e108_194 {d : Nat} {l0 l1 l2 l3 l4 : Option Value} {s0 : Int32} {s1 : Int32} {s2 : Nat} {σ : ab_St} {Q : Option Value → ab_St → Prop} : Ev d 108 194 [l0, l1, l2, l3, l4] [.int s0, .int s1, .ref s2] σ Q = ((ab_k s2 = 100 ∧ ab_in s1 (ab_n s2)) ∧ Ev d 108 195 [l0, l1, l2, l3, l4] [] (ab_wI σ s2 (upd (σ.1 s2) s1.toNatClampNeg s0)) Q) := ev_Hc (c := ab_k s2 = 100 ∧ ab_in s1 (ab_n s2)) d108_194 rfl rfl rfl rfl rfl rfl rfl rfl
theorem d108_195 : decode (ab_C 108) 195 = .ok (.aload_n 0, 1) := by decide +kernel
theorem e108_195 {d : Nat} {l1 l2 l3 l4 : Option Value} {x : Nat} {σ : ab_St} {Q : Option Value → ab_St → Prop} : Ev d 108 195 [some (.ref x), l1, l2, l3, l4] [] σ Q = Ev d 108 196 [some (.ref x), l1, l2, l3, l4] [.ref x] σ Q := ev_A1 d108_195 rfl
theorem d108_196 : decode (ab_C 108) 196 = .ok (.dup, 1) := by decide +kernel
theorem e108_196 {d : Nat} {l0 l1 l2 l3 l4 : Option Value} {s0 : Nat} {σ : ab_St} {Q : Option Value → ab_St → Prop} : Ev d 108 196 [l0, l1, l2, l3, l4] [.ref s0] σ Q = Ev d 108 197 [l0, l1, l2, l3, l4] [.ref s0, .ref s0] σ Q := ev_A1 d108_196 rfl
theorem d108_197 : decode (ab_C 108) 197 = .ok (.getfield 110, 3) := by decide +kernel
theorem e108_197 {d : Nat} {l0 l1 l2 l3 l4 : Option Value} {s0 : Nat} {s1 : Nat} {σ : ab_St} {Q : Option Value → ab_St → Prop} : Ev d 108 197 [l0, l1, l2, l3, l4] [.ref s0, .ref s1] σ Q = (ab_k s0 = 10 ∧ Ev d 108 200 [l0, l1, l2, l3, l4] [.int (σ.1 s0 19), .ref s1] σ Q) := ev_Hc (c := ab_k s0 = 10) d108_197 rfl rfl rfl rfl rfl rfl rfl rfl
theorem d108_200 : decode (ab_C 108) 200 = .ok (.iconst 1, 1) := by decide +kernel
theorem e108_200 {d : Nat} {l0 l1 l2 l3 l4 : Option Value} {s0 : Int32} {s1 : Nat} {σ : ab_St} {Q : Option Value → ab_St → Prop} : Ev d 108 200 [l0, l1, l2, l3, l4] [.int s0, .ref s1] σ Q = Ev d 108 201 [l0, l1, l2, l3, l4] [.int 1, .int s0, .ref s1] σ Q := ev_A1 d108_200 rfl
theorem d108_201 : decode (ab_C 108) 201 = .ok (.iadd, 1) := by decide +kernel
theorem e108_201 {d : Nat} {l0 l1 l2 l3 l4 : Option Value} {s0 : Int32} {s1 : Int32} {s2 : Nat} {σ : ab_St} {Q : Option Value → ab_St → Prop} : Ev d 108 201 [l0, l1, l2, l3, l4] [.int s0, .int s1, .ref s2] σ Q = Ev d 108 202 [l0, l1, l2, l3, l4] [.int (s1 + s0), .ref s2] σ Q := ev_A2 d108_201 rfl rfl
theorem d108_202 : decode (ab_C 108) 202 = .ok (.putfield 110, 3) := by decide +kernel
theorem e108_202 {d : Nat} {l0 l1 l2 l3 l4 : Option Value} {s0 : Int32} {s1 : Nat} {σ : ab_St} {Q : Option Value → ab_St → Prop} : Ev d 108 202 [l0, l1, l2, l3, l4] [.int s0, .ref s1] σ Q = (ab_k s1 = 10 ∧ Ev d 108 205 [l0, l1, l2, l3, l4] [] (ab_wI σ s1 (upd (σ.1 s1) 19 s0)) Q) := ev_Hc (c := ab_k s1 = 10) d108_202 rfl rfl rfl rfl rfl rfl rfl rfl
theorem d108_205 : decode (ab_C 108) 205 = .ok (.iconst 1, 1) := by decide +kernel
theorem e108_205 {d : Nat} {l0 l1 l2 l3 l4 : Option Value} {σ : ab_St} {Q : Option Value → ab_St → Prop} : Ev d 108 205 [l0, l1, l2, l3, l4] [] σ Q = Ev d 108 206 [l0, l1, l2, l3, l4] [.int 1] σ Q := ev_A1 d108_205 rfl
theorem d108_206 : decode (ab_C 108) 206 = .ok (.ireturn, 1) := by decide +kernel
theorem e108_206 {d : Nat} {l0 l1 l2 l3 l4 : Option Value} {s0 : Int32} {σ : ab_St} {Q : Option Value → ab_St → Prop} : Ev d 108 206 [l0, l1, l2, l3, l4] [.int s0] σ Q = ((s0 = 0 ∨ s0 = 1) ∧ Q (some (.int s0)) σ) := ev_Z d108_206 rfl
