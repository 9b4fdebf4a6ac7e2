/-! SaidLeast.write(IJ)I -/
theorem d11_0 : decode (ab_C 11) 0 = .ok (.iload_n 1, 1) := by decide +kernel
theorem e11_0 {d : Nat} {l0 l2 l3 : Option Value} {x : Int32} {σ : ab_St} {Q : Option Value → ab_St → Prop} : Ev d 11 0 [l0, some (.int x), l2, l3] [] σ Q = Ev d 11 1 [l0, some (.int x), l2, l3] [.int x] σ Q := ev_A1 d11_0 rfl
theorem d11_1 : decode (ab_C 11) 1 = .ok (.iconst 1, 1) := by decide +kernel
theorem e11_1 {d : Nat} {l0 l1 l2 l3 : Option Value} {s0 : Int32} {σ : ab_St} {Q : Option Value → ab_St → Prop} : Ev d 11 1 [l0, l1, l2, l3] [.int s0] σ Q = Ev d 11 2 [l0, l1, l2, l3] [.int 1, .int s0] σ Q := ev_A1 d11_1 rfl
theorem d11_2 : decode (ab_C 11) 2 = .ok (.if_icmp .lt 9, 3) := by decide +kernel
theorem e11_2 {d : Nat} {l0 l1 l2 l3 : Option Value} {s0 : Int32} {s1 : Int32} {σ : ab_St} {Q : Option Value → ab_St → Prop} : Ev d 11 2 [l0, l1, l2, l3] [.int s0, .int s1] σ Q = if s1 < s0 then Ev d 11 11 [l0, l1, l2, l3] [] σ Q else Ev d 11 5 [l0, l1, l2, l3] [] σ Q := ev_B (c := s1 < s0) d11_2 rfl rfl rfl rfl rfl
theorem d11_5 : decode (ab_C 11) 5 = .ok (.iload_n 1, 1) := by decide +kernel
theorem e11_5 {d : Nat} {l0 l2 l3 : Option Value} {x : Int32} {σ : ab_St} {Q : Option Value → ab_St → Prop} : Ev d 11 5 [l0, some (.int x), l2, l3] [] σ Q = Ev d 11 6 [l0, some (.int x), l2, l3] [.int x] σ Q := ev_A1 d11_5 rfl
theorem d11_6 : decode (ab_C 11) 6 = .ok (.bipush 8, 2) := by decide +kernel
theorem e11_6 {d : Nat} {l0 l1 l2 l3 : Option Value} {s0 : Int32} {σ : ab_St} {Q : Option Value → ab_St → Prop} : Ev d 11 6 [l0, l1, l2, l3] [.int s0] σ Q = Ev d 11 8 [l0, l1, l2, l3] [.int 8, .int s0] σ Q := ev_A1 d11_6 rfl
theorem d11_8 : decode (ab_C 11) 8 = .ok (.if_icmp .le 6, 3) := by decide +kernel
theorem e11_8 {d : Nat} {l0 l1 l2 l3 : Option Value} {s0 : Int32} {s1 : Int32} {σ : ab_St} {Q : Option Value → ab_St → Prop} : Ev d 11 8 [l0, l1, l2, l3] [.int s0, .int s1] σ Q = if s1 ≤ s0 then Ev d 11 14 [l0, l1, l2, l3] [] σ Q else Ev d 11 11 [l0, l1, l2, l3] [] σ Q := ev_B (c := s1 ≤ s0) d11_8 rfl rfl rfl rfl rfl
theorem d11_11 : decode (ab_C 11) 11 = .ok (.bipush (-2), 2) := by decide +kernel
theorem e11_11 {d : Nat} {l0 l1 l2 l3 : Option Value} {σ : ab_St} {Q : Option Value → ab_St → Prop} : Ev d 11 11 [l0, l1, l2, l3] [] σ Q = Ev d 11 13 [l0, l1, l2, l3] [.int (-2)] σ Q := ev_A1 d11_11 rfl
theorem d11_13 : decode (ab_C 11) 13 = .ok (.ireturn, 1) := by decide +kernel
theorem e11_13 {d : Nat} {l0 l1 l2 l3 : Option Value} {s0 : Int32} {σ : ab_St} {Q : Option Value → ab_St → Prop} : Ev d 11 13 [l0, l1, l2, l3] [.int s0] σ Q = Q (some (.int s0)) σ := ev_E d11_13 rfl rfl rfl rfl rfl rfl rfl
theorem d11_14 : decode (ab_C 11) 14 = .ok (.aload_n 0, 1) := by decide +kernel
theorem e11_14 {d : Nat} {l1 l2 l3 : Option Value} {x : Nat} {σ : ab_St} {Q : Option Value → ab_St → Prop} : Ev d 11 14 [some (.ref x), l1, l2, l3] [] σ Q = Ev d 11 15 [some (.ref x), l1, l2, l3] [.ref x] σ Q := ev_A1 d11_14 rfl
theorem d11_15 : decode (ab_C 11) 15 = .ok (.getfield 12, 3) := by decide +kernel
theorem e11_15 {d : Nat} {l0 l1 l2 l3 : Option Value} {s0 : Nat} {σ : ab_St} {Q : Option Value → ab_St → Prop} : Ev d 11 15 [l0, l1, l2, l3] [.ref s0] σ Q = (ab_k s0 = 0 ∧ Ev d 11 18 [l0, l1, l2, l3] [.ref (ab_r s0 0)] σ Q) := ev_Hc (c := ab_k s0 = 0) d11_15 rfl rfl rfl rfl rfl rfl rfl rfl
theorem d11_18 : decode (ab_C 11) 18 = .ok (.getfield 72, 3) := by decide +kernel
theorem e11_18 {d : Nat} {l0 l1 l2 l3 : Option Value} {s0 : Nat} {σ : ab_St} {Q : Option Value → ab_St → Prop} : Ev d 11 18 [l0, l1, l2, l3] [.ref s0] σ Q = (ab_k s0 = 1 ∧ Ev d 11 21 [l0, l1, l2, l3] [.int (σ.1 s0 1)] σ Q) := ev_Hc (c := ab_k s0 = 1) d11_18 rfl rfl rfl rfl rfl rfl rfl rfl
theorem d11_21 : decode (ab_C 11) 21 = .ok (.iload_n 1, 1) := by decide +kernel
theorem e11_21 {d : Nat} {l0 l2 l3 : Option Value} {x : Int32} {s0 : Int32} {σ : ab_St} {Q : Option Value → ab_St → Prop} : Ev d 11 21 [l0, some (.int x), l2, l3] [.int s0] σ Q = Ev d 11 22 [l0, some (.int x), l2, l3] [.int x, .int s0] σ Q := ev_A1 d11_21 rfl
theorem d11_22 : decode (ab_C 11) 22 = .ok (.iadd, 1) := by decide +kernel
theorem e11_22 {d : Nat} {l0 l1 l2 l3 : Option Value} {s0 : Int32} {s1 : Int32} {σ : ab_St} {Q : Option Value → ab_St → Prop} : Ev d 11 22 [l0, l1, l2, l3] [.int s0, .int s1] σ Q = Ev d 11 23 [l0, l1, l2, l3] [.int (s1 + s0)] σ Q := ev_A2 d11_22 rfl rfl
theorem d11_23 : decode (ab_C 11) 23 = .ok (.bipush 64, 2) := by decide +kernel
theorem e11_23 {d : Nat} {l0 l1 l2 l3 : Option Value} {s0 : Int32} {σ : ab_St} {Q : Option Value → ab_St → Prop} : Ev d 11 23 [l0, l1, l2, l3] [.int s0] σ Q = Ev d 11 25 [l0, l1, l2, l3] [.int 64, .int s0] σ Q := ev_A1 d11_23 rfl
theorem d11_25 : decode (ab_C 11) 25 = .ok (.if_icmp .le 6, 3) := by decide +kernel
theorem e11_25 {d : Nat} {l0 l1 l2 l3 : Option Value} {s0 : Int32} {s1 : Int32} {σ : ab_St} {Q : Option Value → ab_St → Prop} : Ev d 11 25 [l0, l1, l2, l3] [.int s0, .int s1] σ Q = if s1 ≤ s0 then Ev d 11 31 [l0, l1, l2, l3] [] σ Q else Ev d 11 28 [l0, l1, l2, l3] [] σ Q := ev_B (c := s1 ≤ s0) d11_25 rfl rfl rfl rfl rfl
theorem d11_28 : decode (ab_C 11) 28 = .ok (.bipush (-4), 2) := by decide +kernel
theorem e11_28 {d : Nat} {l0 l1 l2 l3 : Option Value} {σ : ab_St} {Q : Option Value → ab_St → Prop} : Ev d 11 28 [l0, l1, l2, l3] [] σ Q = Ev d 11 30 [l0, l1, l2, l3] [.int (-4)] σ Q := ev_A1 d11_28 rfl
theorem d11_30 : decode (ab_C 11) 30 = .ok (.ireturn, 1) := by decide +kernel
theorem e11_30 {d : Nat} {l0 l1 l2 l3 : Option Value} {s0 : Int32} {σ : ab_St} {Q : Option Value → ab_St → Prop} : Ev d 11 30 [l0, l1, l2, l3] [.int s0] σ Q = Q (some (.int s0)) σ := ev_E d11_30 rfl rfl rfl rfl rfl rfl rfl
theorem d11_31 : decode (ab_C 11) 31 = .ok (.aload_n 0, 1) := by decide +kernel
theorem e11_31 {d : Nat} {l1 l2 l3 : Option Value} {x : Nat} {σ : ab_St} {Q : Option Value → ab_St → Prop} : Ev d 11 31 [some (.ref x), l1, l2, l3] [] σ Q = Ev d 11 32 [some (.ref x), l1, l2, l3] [.ref x] σ Q := ev_A1 d11_31 rfl
theorem d11_32 : decode (ab_C 11) 32 = .ok (.getfield 12, 3) := by decide +kernel
theorem e11_32 {d : Nat} {l0 l1 l2 l3 : Option Value} {s0 : Nat} {σ : ab_St} {Q : Option Value → ab_St → Prop} : Ev d 11 32 [l0, l1, l2, l3] [.ref s0] σ Q = (ab_k s0 = 0 ∧ Ev d 11 35 [l0, l1, l2, l3] [.ref (ab_r s0 0)] σ Q) := ev_Hc (c := ab_k s0 = 0) d11_32 rfl rfl rfl rfl rfl rfl rfl rfl
theorem d11_35 : decode (ab_C 11) 35 = .ok (.iload_n 1, 1) := by decide +kernel
theorem e11_35 {d : Nat} {l0 l2 l3 : Option Value} {x : Int32} {s0 : Nat} {σ : ab_St} {Q : Option Value → ab_St → Prop} : Ev d 11 35 [l0, some (.int x), l2, l3] [.ref s0] σ Q = Ev d 11 36 [l0, some (.int x), l2, l3] [.int x, .ref s0] σ Q := ev_A1 d11_35 rfl
theorem d11_36 : decode (ab_C 11) 36 = .ok (.lload_n 2, 1) := by decide +kernel
theorem e11_36 {d : Nat} {l0 l1 : Option Value} {x : Int64} {s0 : Int32} {s1 : Nat} {σ : ab_St} {Q : Option Value → ab_St → Prop} : Ev d 11 36 [l0, l1, some (.long x), none] [.int s0, .ref s1] σ Q = Ev d 11 37 [l0, l1, some (.long x), none] [.long x, .int s0, .ref s1] σ Q := ev_A1 d11_36 rfl
theorem d11_37 : decode (ab_C 11) 37 = .ok (.invokevirtual 76, 3) := by decide +kernel
theorem e11_37 {d : Nat} {l0 l1 l2 l3 : Option Value} {s0 : Int64} {s1 : Int32} {s2 : Nat} {σ : ab_St} {Q : Option Value → ab_St → Prop} : Ev (d + 1) 11 37 [l0, l1, l2, l3] [.long s0, .int s1, .ref s2] σ Q = (ab_k s2 = 1 ∧ Ev d 12 0 [some (.ref s2), some (.int s1), some (.long s0), none, none] [] σ (fun r σ2 => Ev (d + 1) 11 40 [l0, l1, l2, l3] (r.toList ++ []) σ2 Q)) := ev_KV (b := s2) (ls := [l0, l1, l2, l3]) (st := [.long s0, .int s1, .ref s2]) (as := [.int s1, .long s0]) (rest := []) d11_37 rfl rfl rfl (Nat.le_of_ble_eq_true rfl) (Nat.le_of_ble_eq_true rfl) (Nat.le_of_ble_eq_true rfl) rfl rfl rfl rfl rfl rfl rfl
theorem d11_40 : decode (ab_C 11) 40 = .ok (.aload_n 0, 1) := by decide +kernel
theorem e11_40 {d : Nat} {l1 l2 l3 : Option Value} {x : Nat} {σ : ab_St} {Q : Option Value → ab_St → Prop} : Ev d 11 40 [some (.ref x), l1, l2, l3] [] σ Q = Ev d 11 41 [some (.ref x), l1, l2, l3] [.ref x] σ Q := ev_A1 d11_40 rfl
theorem d11_41 : decode (ab_C 11) 41 = .ok (.getfield 12, 3) := by decide +kernel
theorem e11_41 {d : Nat} {l0 l1 l2 l3 : Option Value} {s0 : Nat} {σ : ab_St} {Q : Option Value → ab_St → Prop} : Ev d 11 41 [l0, l1, l2, l3] [.ref s0] σ Q = (ab_k s0 = 0 ∧ Ev d 11 44 [l0, l1, l2, l3] [.ref (ab_r s0 0)] σ Q) := ev_Hc (c := ab_k s0 = 0) d11_41 rfl rfl rfl rfl rfl rfl rfl rfl
theorem d11_44 : decode (ab_C 11) 44 = .ok (.getfield 72, 3) := by decide +kernel
theorem e11_44 {d : Nat} {l0 l1 l2 l3 : Option Value} {s0 : Nat} {σ : ab_St} {Q : Option Value → ab_St → Prop} : Ev d 11 44 [l0, l1, l2, l3] [.ref s0] σ Q = (ab_k s0 = 1 ∧ Ev d 11 47 [l0, l1, l2, l3] [.int (σ.1 s0 1)] σ Q) := ev_Hc (c := ab_k s0 = 1) d11_44 rfl rfl rfl rfl rfl rfl rfl rfl
theorem d11_47 : decode (ab_C 11) 47 = .ok (.ireturn, 1) := by decide +kernel
theorem e11_47 {d : Nat} {l0 l1 l2 l3 : Option Value} {s0 : Int32} {σ : ab_St} {Q : Option Value → ab_St → Prop} : Ev d 11 47 [l0, l1, l2, l3] [.int s0] σ Q = Q (some (.int s0)) σ := ev_E d11_47 rfl rfl rfl rfl rfl rfl rfl
/-! SaidLeast$Text.append(IJ)V -/
theorem d12_0 : decode (ab_C 12) 0 = .ok (.iload_n 1, 1) := by decide +kernel
theorem e12_0 {d : Nat} {l0 l2 l3 l4 : Option Value} {x : Int32} {σ : ab_St} {Q : Option Value → ab_St → Prop} : Ev d 12 0 [l0, some (.int x), l2, l3, l4] [] σ Q = Ev d 12 1 [l0, some (.int x), l2, l3, l4] [.int x] σ Q := ev_A1 d12_0 rfl
theorem d12_1 : decode (ab_C 12) 1 = .ok (.iconst 1, 1) := by decide +kernel
theorem e12_1 {d : Nat} {l0 l1 l2 l3 l4 : Option Value} {s0 : Int32} {σ : ab_St} {Q : Option Value → ab_St → Prop} : Ev d 12 1 [l0, l1, l2, l3, l4] [.int s0] σ Q = Ev d 12 2 [l0, l1, l2, l3, l4] [.int 1, .int s0] σ Q := ev_A1 d12_1 rfl
theorem d12_2 : decode (ab_C 12) 2 = .ok (.isub, 1) := by decide +kernel
theorem e12_2 {d : Nat} {l0 l1 l2 l3 l4 : Option Value} {s0 : Int32} {s1 : Int32} {σ : ab_St} {Q : Option Value → ab_St → Prop} : Ev d 12 2 [l0, l1, l2, l3, l4] [.int s0, .int s1] σ Q = Ev d 12 3 [l0, l1, l2, l3, l4] [.int (s1 - s0)] σ Q := ev_A2 d12_2 rfl rfl
theorem d12_3 : decode (ab_C 12) 3 = .ok (.istore 4, 2) := by decide +kernel
theorem e12_3 {d : Nat} {l0 l1 l2 l3 l4 : Option Value} {s0 : Int32} {σ : ab_St} {Q : Option Value → ab_St → Prop} : Ev d 12 3 [l0, l1, l2, l3, l4] [.int s0] σ Q = Ev d 12 5 [l0, l1, l2, l3, some (.int s0)] [] σ Q := ev_S d12_3 rfl rfl rfl rfl
theorem d12_5 : decode (ab_C 12) 5 = .ok (.iload 4, 2) := by decide +kernel
theorem e12_5 {d : Nat} {l0 l1 l2 l3 : Option Value} {x : Int32} {σ : ab_St} {Q : Option Value → ab_St → Prop} : Ev d 12 5 [l0, l1, l2, l3, some (.int x)] [] σ Q = Ev d 12 7 [l0, l1, l2, l3, some (.int x)] [.int x] σ Q := ev_A1 d12_5 rfl
theorem d12_7 : decode (ab_C 12) 7 = .ok (.ifCond .lt 46, 3) := by decide +kernel
theorem e12_7 {d : Nat} {l0 l1 l2 l3 l4 : Option Value} {s0 : Int32} {σ : ab_St} {Q : Option Value → ab_St → Prop} : Ev d 12 7 [l0, l1, l2, l3, l4] [.int s0] σ Q = if s0 < 0 then Ev d 12 53 [l0, l1, l2, l3, l4] [] σ Q else Ev d 12 10 [l0, l1, l2, l3, l4] [] σ Q := ev_B (c := s0 < 0) d12_7 rfl rfl rfl rfl rfl
theorem d12_10 : decode (ab_C 12) 10 = .ok (.aload_n 0, 1) := by decide +kernel
theorem e12_10 {d : Nat} {l1 l2 l3 l4 : Option Value} {x : Nat} {σ : ab_St} {Q : Option Value → ab_St → Prop} : Ev d 12 10 [some (.ref x), l1, l2, l3, l4] [] σ Q = Ev d 12 11 [some (.ref x), l1, l2, l3, l4] [.ref x] σ Q := ev_A1 d12_10 rfl
theorem d12_11 : decode (ab_C 12) 11 = .ok (.getfield 15, 3) := by decide +kernel
theorem e12_11 {d : Nat} {l0 l1 l2 l3 l4 : Option Value} {s0 : Nat} {σ : ab_St} {Q : Option Value → ab_St → Prop} : Ev d 12 11 [l0, l1, l2, l3, l4] [.ref s0] σ Q = (ab_k s0 = 1 ∧ Ev d 12 14 [l0, l1, l2, l3, l4] [.int (σ.1 s0 1)] σ Q) := ev_Hc (c := ab_k s0 = 1) d12_11 rfl rfl rfl rfl rfl rfl rfl rfl
theorem d12_14 : decode (ab_C 12) 14 = .ok (.bipush 64, 2) := by decide +kernel
theorem e12_14 {d : Nat} {l0 l1 l2 l3 l4 : Option Value} {s0 : Int32} {σ : ab_St} {Q : Option Value → ab_St → Prop} : Ev d 12 14 [l0, l1, l2, l3, l4] [.int s0] σ Q = Ev d 12 16 [l0, l1, l2, l3, l4] [.int 64, .int s0] σ Q := ev_A1 d12_14 rfl
theorem d12_16 : decode (ab_C 12) 16 = .ok (.if_icmp .ge 37, 3) := by decide +kernel
theorem e12_16 {d : Nat} {l0 l1 l2 l3 l4 : Option Value} {s0 : Int32} {s1 : Int32} {σ : ab_St} {Q : Option Value → ab_St → Prop} : Ev d 12 16 [l0, l1, l2, l3, l4] [.int s0, .int s1] σ Q = if s0 ≤ s1 then Ev d 12 53 [l0, l1, l2, l3, l4] [] σ Q else Ev d 12 19 [l0, l1, l2, l3, l4] [] σ Q := ev_B (c := s0 ≤ s1) d12_16 rfl rfl rfl rfl rfl
theorem d12_19 : decode (ab_C 12) 19 = .ok (.aload_n 0, 1) := by decide +kernel
theorem e12_19 {d : Nat} {l1 l2 l3 l4 : Option Value} {x : Nat} {σ : ab_St} {Q : Option Value → ab_St → Prop} : Ev d 12 19 [some (.ref x), l1, l2, l3, l4] [] σ Q = Ev d 12 20 [some (.ref x), l1, l2, l3, l4] [.ref x] σ Q := ev_A1 d12_19 rfl
theorem d12_20 : decode (ab_C 12) 20 = .ok (.getfield 9, 3) := by decide +kernel
theorem e12_20 {d : Nat} {l0 l1 l2 l3 l4 : Option Value} {s0 : Nat} {σ : ab_St} {Q : Option Value → ab_St → Prop} : Ev d 12 20 [l0, l1, l2, l3, l4] [.ref s0] σ Q = (ab_k s0 = 1 ∧ Ev d 12 23 [l0, l1, l2, l3, l4] [.ref (ab_r s0 0)] σ Q) := ev_Hc (c := ab_k s0 = 1) d12_20 rfl rfl rfl rfl rfl rfl rfl rfl
theorem d12_23 : decode (ab_C 12) 23 = .ok (.aload_n 0, 1) := by decide +kernel
theorem e12_23 {d : Nat} {l1 l2 l3 l4 : Option Value} {x : Nat} {s0 : Nat} {σ : ab_St} {Q : Option Value → ab_St → Prop} : Ev d 12 23 [some (.ref x), l1, l2, l3, l4] [.ref s0] σ Q = Ev d 12 24 [some (.ref x), l1, l2, l3, l4] [.ref x, .ref s0] σ Q := ev_A1 d12_23 rfl
theorem d12_24 : decode (ab_C 12) 24 = .ok (.getfield 15, 3) := by decide +kernel
theorem e12_24 {d : Nat} {l0 l1 l2 l3 l4 : Option Value} {s0 : Nat} {s1 : Nat} {σ : ab_St} {Q : Option Value → ab_St → Prop} : Ev d 12 24 [l0, l1, l2, l3, l4] [.ref s0, .ref s1] σ Q = (ab_k s0 = 1 ∧ Ev d 12 27 [l0, l1, l2, l3, l4] [.int (σ.1 s0 1), .ref s1] σ Q) := ev_Hc (c := ab_k s0 = 1) d12_24 rfl rfl rfl rfl rfl rfl rfl rfl
theorem d12_27 : decode (ab_C 12) 27 = .ok (.lload_n 2, 1) := by decide +kernel
theorem e12_27 {d : Nat} {l0 l1 l4 : Option Value} {x : Int64} {s0 : Int32} {s1 : Nat} {σ : ab_St} {Q : Option Value → ab_St → Prop} : Ev d 12 27 [l0, l1, some (.long x), none, l4] [.int s0, .ref s1] σ Q = Ev d 12 28 [l0, l1, some (.long x), none, l4] [.long x, .int s0, .ref s1] σ Q := ev_A1 d12_27 rfl
theorem d12_28 : decode (ab_C 12) 28 = .ok (.bipush 8, 2) := by decide +kernel
theorem e12_28 {d : Nat} {l0 l1 l2 l3 l4 : Option Value} {s0 : Int64} {s1 : Int32} {s2 : Nat} {σ : ab_St} {Q : Option Value → ab_St → Prop} : Ev d 12 28 [l0, l1, l2, l3, l4] [.long s0, .int s1, .ref s2] σ Q = Ev d 12 30 [l0, l1, l2, l3, l4] [.int 8, .long s0, .int s1, .ref s2] σ Q := ev_A1 d12_28 rfl
theorem d12_30 : decode (ab_C 12) 30 = .ok (.iload 4, 2) := by decide +kernel
theorem e12_30 {d : Nat} {l0 l1 l2 l3 : Option Value} {x : Int32} {s0 : Int32} {s1 : Int64} {s2 : Int32} {s3 : Nat} {σ : ab_St} {Q : Option Value → ab_St → Prop} : Ev d 12 30 [l0, l1, l2, l3, some (.int x)] [.int s0, .long s1, .int s2, .ref s3] σ Q = Ev d 12 32 [l0, l1, l2, l3, some (.int x)] [.int x, .int s0, .long s1, .int s2, .ref s3] σ Q := ev_A1 d12_30 rfl
theorem d12_32 : decode (ab_C 12) 32 = .ok (.imul, 1) := by decide +kernel
theorem e12_32 {d : Nat} {l0 l1 l2 l3 l4 : Option Value} {s0 : Int32} {s1 : Int32} {s2 : Int64} {s3 : Int32} {s4 : Nat} {σ : ab_St} {Q : Option Value → ab_St → Prop} : Ev d 12 32 [l0, l1, l2, l3, l4] [.int s0, .int s1, .long s2, .int s3, .ref s4] σ Q = Ev d 12 33 [l0, l1, l2, l3, l4] [.int (s1 * s0), .long s2, .int s3, .ref s4] σ Q := ev_A2 d12_32 rfl rfl
theorem d12_33 : decode (ab_C 12) 33 = .ok (.lushr, 1) := by decide +kernel
theorem e12_33 {d : Nat} {l0 l1 l2 l3 l4 : Option Value} {s0 : Int32} {s1 : Int64} {s2 : Int32} {s3 : Nat} {σ : ab_St} {Q : Option Value → ab_St → Prop} : Ev d 12 33 [l0, l1, l2, l3, l4] [.int s0, .long s1, .int s2, .ref s3] σ Q = Ev d 12 34 [l0, l1, l2, l3, l4] [.long (s1.toUInt64 >>> (s0.toInt64.toUInt64 &&& Int64.toUInt64 63)).toInt64, .int s2, .ref s3] σ Q := ev_A2 d12_33 rfl rfl
theorem d12_34 : decode (ab_C 12) 34 = .ok (.l2i, 1) := by decide +kernel
theorem e12_34 {d : Nat} {l0 l1 l2 l3 l4 : Option Value} {s0 : Int64} {s1 : Int32} {s2 : Nat} {σ : ab_St} {Q : Option Value → ab_St → Prop} : Ev d 12 34 [l0, l1, l2, l3, l4] [.long s0, .int s1, .ref s2] σ Q = Ev d 12 35 [l0, l1, l2, l3, l4] [.int s0.toInt32, .int s1, .ref s2] σ Q := ev_A2 d12_34 rfl rfl
theorem d12_35 : decode (ab_C 12) 35 = .ok (.i2b, 1) := by decide +kernel
theorem e12_35 {d : Nat} {l0 l1 l2 l3 l4 : Option Value} {s0 : Int32} {s1 : Int32} {s2 : Nat} {σ : ab_St} {Q : Option Value → ab_St → Prop} : Ev d 12 35 [l0, l1, l2, l3, l4] [.int s0, .int s1, .ref s2] σ Q = Ev d 12 36 [l0, l1, l2, l3, l4] [.int s0.toInt8.toInt32, .int s1, .ref s2] σ Q := ev_A2 d12_35 rfl rfl
theorem d12_36 : decode (ab_C 12) 36 = .ok (.bastore, 1) := by decide +kernel
theorem e12_36 {d : Nat} {l0 l1 l2 l3 l4 : Option Value} {s0 : Int32} {s1 : Int32} {s2 : Nat} {σ : ab_St} {Q : Option Value → ab_St → Prop} : Ev d 12 36 [l0, l1, l2, l3, l4] [.int s0, .int s1, .ref s2] σ Q = if ab_k s2 = 101 ∧ ab_in s1 (ab_n s2) then Ev d 12 37 [l0, l1, l2, l3, l4] [] (ab_wI σ s2 (upd (σ.1 s2) s1.toNatClampNeg (vp_nar .byte s0))) Q else ((ab_k s2 = 102 ∧ ab_in s1 (ab_n s2)) ∧ Ev d 12 37 [l0, l1, l2, l3, l4] [] (ab_wI σ s2 (upd (σ.1 s2) s1.toNatClampNeg (vp_nar .boolean s0))) Q) := ev_bast (j := 0) d12_36 
theorem d12_37 : decode (ab_C 12) 37 = .ok (.aload_n 0, 1) := by decide +kernel
theorem e12_37 {d : Nat} {l1 l2 l3 l4 : Option Value} {x : Nat} {σ : ab_St} {Q : Option Value → ab_St → Prop} : Ev d 12 37 [some (.ref x), l1, l2, l3, l4] [] σ Q = Ev d 12 38 [some (.ref x), l1, l2, l3, l4] [.ref x] σ Q := ev_A1 d12_37 rfl
theorem d12_38 : decode (ab_C 12) 38 = .ok (.dup, 1) := by decide +kernel
theorem e12_38 {d : Nat} {l0 l1 l2 l3 l4 : Option Value} {s0 : Nat} {σ : ab_St} {Q : Option Value → ab_St → Prop} : Ev d 12 38 [l0, l1, l2, l3, l4] [.ref s0] σ Q = Ev d 12 39 [l0, l1, l2, l3, l4] [.ref s0, .ref s0] σ Q := ev_A1 d12_38 rfl
theorem d12_39 : decode (ab_C 12) 39 = .ok (.getfield 15, 3) := by decide +kernel
theorem e12_39 {d : Nat} {l0 l1 l2 l3 l4 : Option Value} {s0 : Nat} {s1 : Nat} {σ : ab_St} {Q : Option Value → ab_St → Prop} : Ev d 12 39 [l0, l1, l2, l3, l4] [.ref s0, .ref s1] σ Q = (ab_k s0 = 1 ∧ Ev d 12 42 [l0, l1, l2, l3, l4] [.int (σ.1 s0 1), .ref s1] σ Q) := ev_Hc (c := ab_k s0 = 1) d12_39 rfl rfl rfl rfl rfl rfl rfl rfl
theorem d12_42 : decode (ab_C 12) 42 = .ok (.iconst 1, 1) := by decide +kernel
theorem e12_42 {d : Nat} {l0 l1 l2 l3 l4 : Option Value} {s0 : Int32} {s1 : Nat} {σ : ab_St} {Q : Option Value → ab_St → Prop} : Ev d 12 42 [l0, l1, l2, l3, l4] [.int s0, .ref s1] σ Q = Ev d 12 43 [l0, l1, l2, l3, l4] [.int 1, .int s0, .ref s1] σ Q := ev_A1 d12_42 rfl
theorem d12_43 : decode (ab_C 12) 43 = .ok (.iadd, 1) := by decide +kernel
theorem e12_43 {d : Nat} {l0 l1 l2 l3 l4 : Option Value} {s0 : Int32} {s1 : Int32} {s2 : Nat} {σ : ab_St} {Q : Option Value → ab_St → Prop} : Ev d 12 43 [l0, l1, l2, l3, l4] [.int s0, .int s1, .ref s2] σ Q = Ev d 12 44 [l0, l1, l2, l3, l4] [.int (s1 + s0), .ref s2] σ Q := ev_A2 d12_43 rfl rfl
theorem d12_44 : decode (ab_C 12) 44 = .ok (.putfield 15, 3) := by decide +kernel
theorem e12_44 {d : Nat} {l0 l1 l2 l3 l4 : Option Value} {s0 : Int32} {s1 : Nat} {σ : ab_St} {Q : Option Value → ab_St → Prop} : Ev d 12 44 [l0, l1, l2, l3, l4] [.int s0, .ref s1] σ Q = (ab_k s1 = 1 ∧ Ev d 12 47 [l0, l1, l2, l3, l4] [] (ab_wI σ s1 (upd (σ.1 s1) 1 s0)) Q) := ev_Hc (c := ab_k s1 = 1) d12_44 rfl rfl rfl rfl rfl rfl rfl rfl
theorem d12_47 : decode (ab_C 12) 47 = .ok (.iinc 4 (-1), 3) := by decide +kernel
theorem e12_47 {d : Nat} {l0 l1 l2 l3 : Option Value} {x : Int32} {σ : ab_St} {Q : Option Value → ab_St → Prop} : Ev d 12 47 [l0, l1, l2, l3, some (.int x)] [] σ Q = Ev d 12 50 [l0, l1, l2, l3, some (.int (x + (-1)))] [] σ Q := ev_S d12_47 rfl rfl rfl rfl
theorem d12_50 : decode (ab_C 12) 50 = .ok (.goto (-45), 3) := by decide +kernel
theorem e12_50 {d : Nat} {l0 l1 l2 l3 l4 : Option Value} {σ : ab_St} {Q : Option Value → ab_St → Prop} : Ev d 12 50 [l0, l1, l2, l3, l4] [] σ Q = Ev d 12 5 [l0, l1, l2, l3, l4] [] σ Q := ev_J d12_50 rfl rfl rfl rfl rfl
theorem d12_53 : decode (ab_C 12) 53 = .ok (.return_, 1) := by decide +kernel
theorem e12_53 {d : Nat} {l0 l1 l2 l3 l4 : Option Value} {σ : ab_St} {Q : Option Value → ab_St → Prop} : Ev d 12 53 [l0, l1, l2, l3, l4] [] σ Q = Q none σ := ev_E d12_53 rfl rfl rfl rfl rfl rfl rfl
/-! SaidLeast.wipe()I -/
theorem d13_0 : decode (ab_C 13) 0 = .ok (.aload_n 0, 1) := by decide +kernel
theorem e13_0 {d : Nat} {l1 : Option Value} {x : Nat} {σ : ab_St} {Q : Option Value → ab_St → Prop} : Ev d 13 0 [some (.ref x), l1] [] σ Q = Ev d 13 1 [some (.ref x), l1] [.ref x] σ Q := ev_A1 d13_0 rfl
theorem d13_1 : decode (ab_C 13) 1 = .ok (.getfield 12, 3) := by decide +kernel
theorem e13_1 {d : Nat} {l0 l1 : Option Value} {s0 : Nat} {σ : ab_St} {Q : Option Value → ab_St → Prop} : Ev d 13 1 [l0, l1] [.ref s0] σ Q = (ab_k s0 = 0 ∧ Ev d 13 4 [l0, l1] [.ref (ab_r s0 0)] σ Q) := ev_Hc (c := ab_k s0 = 0) d13_1 rfl rfl rfl rfl rfl rfl rfl rfl
theorem d13_4 : decode (ab_C 13) 4 = .ok (.getfield 72, 3) := by decide +kernel
theorem e13_4 {d : Nat} {l0 l1 : Option Value} {s0 : Nat} {σ : ab_St} {Q : Option Value → ab_St → Prop} : Ev d 13 4 [l0, l1] [.ref s0] σ Q = (ab_k s0 = 1 ∧ Ev d 13 7 [l0, l1] [.int (σ.1 s0 1)] σ Q) := ev_Hc (c := ab_k s0 = 1) d13_4 rfl rfl rfl rfl rfl rfl rfl rfl
theorem d13_7 : decode (ab_C 13) 7 = .ok (.istore_n 1, 1) := by decide +kernel
theorem e13_7 {d : Nat} {l0 l1 : Option Value} {s0 : Int32} {σ : ab_St} {Q : Option Value → ab_St → Prop} : Ev d 13 7 [l0, l1] [.int s0] σ Q = Ev d 13 8 [l0, some (.int s0)] [] σ Q := ev_S d13_7 rfl rfl rfl rfl
theorem d13_8 : decode (ab_C 13) 8 = .ok (.aload_n 0, 1) := by decide +kernel
theorem e13_8 {d : Nat} {l1 : Option Value} {x : Nat} {σ : ab_St} {Q : Option Value → ab_St → Prop} : Ev d 13 8 [some (.ref x), l1] [] σ Q = Ev d 13 9 [some (.ref x), l1] [.ref x] σ Q := ev_A1 d13_8 rfl
theorem d13_9 : decode (ab_C 13) 9 = .ok (.getfield 12, 3) := by decide +kernel
theorem e13_9 {d : Nat} {l0 l1 : Option Value} {s0 : Nat} {σ : ab_St} {Q : Option Value → ab_St → Prop} : Ev d 13 9 [l0, l1] [.ref s0] σ Q = (ab_k s0 = 0 ∧ Ev d 13 12 [l0, l1] [.ref (ab_r s0 0)] σ Q) := ev_Hc (c := ab_k s0 = 0) d13_9 rfl rfl rfl rfl rfl rfl rfl rfl
theorem d13_12 : decode (ab_C 13) 12 = .ok (.iconst 0, 1) := by decide +kernel
theorem e13_12 {d : Nat} {l0 l1 : Option Value} {s0 : Nat} {σ : ab_St} {Q : Option Value → ab_St → Prop} : Ev d 13 12 [l0, l1] [.ref s0] σ Q = Ev d 13 13 [l0, l1] [.int 0, .ref s0] σ Q := ev_A1 d13_12 rfl
theorem d13_13 : decode (ab_C 13) 13 = .ok (.putfield 72, 3) := by decide +kernel
theorem e13_13 {d : Nat} {l0 l1 : Option Value} {s0 : Int32} {s1 : Nat} {σ : ab_St} {Q : Option Value → ab_St → Prop} : Ev d 13 13 [l0, l1] [.int s0, .ref s1] σ Q = (ab_k s1 = 1 ∧ Ev d 13 16 [l0, l1] [] (ab_wI σ s1 (upd (σ.1 s1) 1 s0)) Q) := ev_Hc (c := ab_k s1 = 1) d13_13 rfl rfl rfl rfl rfl rfl rfl rfl
theorem d13_16 : decode (ab_C 13) 16 = .ok (.iload_n 1, 1) := by decide +kernel
theorem e13_16 {d : Nat} {l0 : Option Value} {x : Int32} {σ : ab_St} {Q : Option Value → ab_St → Prop} : Ev d 13 16 [l0, some (.int x)] [] σ Q = Ev d 13 17 [l0, some (.int x)] [.int x] σ Q := ev_A1 d13_16 rfl
theorem d13_17 : decode (ab_C 13) 17 = .ok (.ireturn, 1) := by decide +kernel
theorem e13_17 {d : Nat} {l0 l1 : Option Value} {s0 : Int32} {σ : ab_St} {Q : Option Value → ab_St → Prop} : Ev d 13 17 [l0, l1] [.int s0] σ Q = Q (some (.int s0)) σ := ev_E d13_17 rfl rfl rfl rfl rfl rfl rfl
/-! SaidLeast.fault()I -/
theorem d14_0 : decode (ab_C 14) 0 = .ok (.aload_n 0, 1) := by decide +kernel
theorem e14_0 {d : Nat} {x : Nat} {σ : ab_St} {Q : Option Value → ab_St → Prop} : Ev d 14 0 [some (.ref x)] [] σ Q = Ev d 14 1 [some (.ref x)] [.ref x] σ Q := ev_A1 d14_0 rfl
theorem d14_1 : decode (ab_C 14) 1 = .ok (.getfield 19, 3) := by decide +kernel
theorem e14_1 {d : Nat} {l0 : Option Value} {s0 : Nat} {σ : ab_St} {Q : Option Value → ab_St → Prop} : Ev d 14 1 [l0] [.ref s0] σ Q = (ab_k s0 = 0 ∧ Ev d 14 4 [l0] [.ref (ab_r s0 1)] σ Q) := ev_Hc (c := ab_k s0 = 0) d14_1 rfl rfl rfl rfl rfl rfl rfl rfl
theorem d14_4 : decode (ab_C 14) 4 = .ok (.aload_n 0, 1) := by decide +kernel
theorem e14_4 {d : Nat} {x : Nat} {s0 : Nat} {σ : ab_St} {Q : Option Value → ab_St → Prop} : Ev d 14 4 [some (.ref x)] [.ref s0] σ Q = Ev d 14 5 [some (.ref x)] [.ref x, .ref s0] σ Q := ev_A1 d14_4 rfl
theorem d14_5 : decode (ab_C 14) 5 = .ok (.getfield 12, 3) := by decide +kernel
theorem e14_5 {d : Nat} {l0 : Option Value} {s0 : Nat} {s1 : Nat} {σ : ab_St} {Q : Option Value → ab_St → Prop} : Ev d 14 5 [l0] [.ref s0, .ref s1] σ Q = (ab_k s0 = 0 ∧ Ev d 14 8 [l0] [.ref (ab_r s0 0), .ref s1] σ Q) := ev_Hc (c := ab_k s0 = 0) d14_5 rfl rfl rfl rfl rfl rfl rfl rfl
theorem d14_8 : decode (ab_C 14) 8 = .ok (.invokevirtual 80, 3) := by decide +kernel
theorem e14_8 {d : Nat} {l0 : Option Value} {s0 : Nat} {s1 : Nat} {σ : ab_St} {Q : Option Value → ab_St → Prop} : Ev (d + 1) 14 8 [l0] [.ref s0, .ref s1] σ Q = (ab_k s1 = 2 ∧ Ev d 15 0 [some (.ref s1), some (.ref s0), none] [] σ (fun r σ2 => Ev (d + 1) 14 11 [l0] (r.toList ++ []) σ2 Q)) := ev_KV (b := s1) (ls := [l0]) (st := [.ref s0, .ref s1]) (as := [.ref s0]) (rest := []) d14_8 rfl rfl rfl (Nat.le_of_ble_eq_true rfl) (Nat.le_of_ble_eq_true rfl) (Nat.le_of_ble_eq_true rfl) rfl rfl rfl rfl rfl rfl rfl
theorem d14_11 : decode (ab_C 14) 11 = .ok (.ireturn, 1) := by decide +kernel
theorem e14_11 {d : Nat} {l0 : Option Value} {s0 : Int32} {σ : ab_St} {Q : Option Value → ab_St → Prop} : Ev d 14 11 [l0] [.int s0] σ Q = Q (some (.int s0)) σ := ev_E d14_11 rfl rfl rfl rfl rfl rfl rfl
/-! SaidLeast$Reader.firstFault(LSaidLeast$Text;)I -/
theorem d15_0 : decode (ab_C 15) 0 = .ok (.aload_n 0, 1) := by decide +kernel
theorem e15_0 {d : Nat} {l1 l2 : Option Value} {x : Nat} {σ : ab_St} {Q : Option Value → ab_St → Prop} : Ev d 15 0 [some (.ref x), l1, l2] [] σ Q = Ev d 15 1 [some (.ref x), l1, l2] [.ref x] σ Q := ev_A1 d15_0 rfl
theorem d15_1 : decode (ab_C 15) 1 = .ok (.invokevirtual 25, 3) := by decide +kernel
theorem e15_1 {d : Nat} {l0 l1 l2 : Option Value} {s0 : Nat} {σ : ab_St} {Q : Option Value → ab_St → Prop} : Ev (d + 1) 15 1 [l0, l1, l2] [.ref s0] σ Q = (ab_k s0 = 2 ∧ Ev d 16 0 [some (.ref s0)] [] σ (fun r σ2 => Ev (d + 1) 15 4 [l0, l1, l2] (r.toList ++ []) σ2 Q)) := ev_KV (b := s0) (ls := [l0, l1, l2]) (st := [.ref s0]) (as := []) (rest := []) d15_1 rfl rfl rfl (Nat.le_of_ble_eq_true rfl) (Nat.le_of_ble_eq_true rfl) (Nat.le_of_ble_eq_true rfl) rfl rfl rfl rfl rfl rfl rfl
theorem d15_4 : decode (ab_C 15) 4 = .ok (.iconst 0, 1) := by decide +kernel
theorem e15_4 {d : Nat} {l0 l1 l2 : Option Value} {σ : ab_St} {Q : Option Value → ab_St → Prop} : Ev d 15 4 [l0, l1, l2] [] σ Q = Ev d 15 5 [l0, l1, l2] [.int 0] σ Q := ev_A1 d15_4 rfl
theorem d15_5 : decode (ab_C 15) 5 = .ok (.istore_n 2, 1) := by decide +kernel
theorem e15_5 {d : Nat} {l0 l1 l2 : Option Value} {s0 : Int32} {σ : ab_St} {Q : Option Value → ab_St → Prop} : Ev d 15 5 [l0, l1, l2] [.int s0] σ Q = Ev d 15 6 [l0, l1, some (.int s0)] [] σ Q := ev_S d15_5 rfl rfl rfl rfl
theorem d15_6 : decode (ab_C 15) 6 = .ok (.iload_n 2, 1) := by decide +kernel
theorem e15_6 {d : Nat} {l0 l1 : Option Value} {x : Int32} {σ : ab_St} {Q : Option Value → ab_St → Prop} : Ev d 15 6 [l0, l1, some (.int x)] [] σ Q = Ev d 15 7 [l0, l1, some (.int x)] [.int x] σ Q := ev_A1 d15_6 rfl
theorem d15_7 : decode (ab_C 15) 7 = .ok (.aload_n 1, 1) := by decide +kernel
theorem e15_7 {d : Nat} {l0 l2 : Option Value} {x : Nat} {s0 : Int32} {σ : ab_St} {Q : Option Value → ab_St → Prop} : Ev d 15 7 [l0, some (.ref x), l2] [.int s0] σ Q = Ev d 15 8 [l0, some (.ref x), l2] [.ref x, .int s0] σ Q := ev_A1 d15_7 rfl
theorem d15_8 : decode (ab_C 15) 8 = .ok (.getfield 28, 3) := by decide +kernel
theorem e15_8 {d : Nat} {l0 l1 l2 : Option Value} {s0 : Nat} {s1 : Int32} {σ : ab_St} {Q : Option Value → ab_St → Prop} : Ev d 15 8 [l0, l1, l2] [.ref s0, .int s1] σ Q = (ab_k s0 = 1 ∧ Ev d 15 11 [l0, l1, l2] [.int (σ.1 s0 1), .int s1] σ Q) := ev_Hc (c := ab_k s0 = 1) d15_8 rfl rfl rfl rfl rfl rfl rfl rfl
theorem d15_11 : decode (ab_C 15) 11 = .ok (.if_icmp .ge 24, 3) := by decide +kernel
theorem e15_11 {d : Nat} {l0 l1 l2 : Option Value} {s0 : Int32} {s1 : Int32} {σ : ab_St} {Q : Option Value → ab_St → Prop} : Ev d 15 11 [l0, l1, l2] [.int s0, .int s1] σ Q = if s0 ≤ s1 then Ev d 15 35 [l0, l1, l2] [] σ Q else Ev d 15 14 [l0, l1, l2] [] σ Q := ev_B (c := s0 ≤ s1) d15_11 rfl rfl rfl rfl rfl
theorem d15_14 : decode (ab_C 15) 14 = .ok (.aload_n 0, 1) := by decide +kernel
theorem e15_14 {d : Nat} {l1 l2 : Option Value} {x : Nat} {σ : ab_St} {Q : Option Value → ab_St → Prop} : Ev d 15 14 [some (.ref x), l1, l2] [] σ Q = Ev d 15 15 [some (.ref x), l1, l2] [.ref x] σ Q := ev_A1 d15_14 rfl
theorem d15_15 : decode (ab_C 15) 15 = .ok (.aload_n 1, 1) := by decide +kernel
theorem e15_15 {d : Nat} {l0 l2 : Option Value} {x : Nat} {s0 : Nat} {σ : ab_St} {Q : Option Value → ab_St → Prop} : Ev d 15 15 [l0, some (.ref x), l2] [.ref s0] σ Q = Ev d 15 16 [l0, some (.ref x), l2] [.ref x, .ref s0] σ Q := ev_A1 d15_15 rfl
theorem d15_16 : decode (ab_C 15) 16 = .ok (.getfield 34, 3) := by decide +kernel
theorem e15_16 {d : Nat} {l0 l1 l2 : Option Value} {s0 : Nat} {s1 : Nat} {σ : ab_St} {Q : Option Value → ab_St → Prop} : Ev d 15 16 [l0, l1, l2] [.ref s0, .ref s1] σ Q = (ab_k s0 = 1 ∧ Ev d 15 19 [l0, l1, l2] [.ref (ab_r s0 0), .ref s1] σ Q) := ev_Hc (c := ab_k s0 = 1) d15_16 rfl rfl rfl rfl rfl rfl rfl rfl
theorem d15_19 : decode (ab_C 15) 19 = .ok (.iload_n 2, 1) := by decide +kernel
theorem e15_19 {d : Nat} {l0 l1 : Option Value} {x : Int32} {s0 : Nat} {s1 : Nat} {σ : ab_St} {Q : Option Value → ab_St → Prop} : Ev d 15 19 [l0, l1, some (.int x)] [.ref s0, .ref s1] σ Q = Ev d 15 20 [l0, l1, some (.int x)] [.int x, .ref s0, .ref s1] σ Q := ev_A1 d15_19 rfl
theorem d15_20 : decode (ab_C 15) 20 = .ok (.baload, 1) := by decide +kernel
theorem e15_20 {d : Nat} {l0 l1 l2 : Option Value} {s0 : Int32} {s1 : Nat} {s2 : Nat} {σ : ab_St} {Q : Option Value → ab_St → Prop} : Ev d 15 20 [l0, l1, l2] [.int s0, .ref s1, .ref s2] σ Q = (((ab_k s1 = 101 ∨ ab_k s1 = 102) ∧ ab_in s0 (ab_n s1)) ∧ Ev d 15 21 [l0, l1, l2] [.int (σ.1 s1 s0.toNatClampNeg), .ref s2] σ Q) := ev_Hc (c := (ab_k s1 = 101 ∨ ab_k s1 = 102) ∧ ab_in s0 (ab_n s1)) d15_20 rfl rfl rfl rfl rfl rfl rfl rfl
theorem d15_21 : decode (ab_C 15) 21 = .ok (.invokevirtual 38, 3) := by decide +kernel
theorem e15_21 {d : Nat} {l0 l1 l2 : Option Value} {s0 : Int32} {s1 : Nat} {σ : ab_St} {Q : Option Value → ab_St → Prop} : Ev (d + 1) 15 21 [l0, l1, l2] [.int s0, .ref s1] σ Q = (ab_k s1 = 2 ∧ Ev d 18 0 [some (.ref s1), some (.int s0)] [] σ (fun r σ2 => Ev (d + 1) 15 24 [l0, l1, l2] (r.toList ++ []) σ2 Q)) := ev_KV (b := s1) (ls := [l0, l1, l2]) (st := [.int s0, .ref s1]) (as := [.int s0]) (rest := []) d15_21 rfl rfl rfl (Nat.le_of_ble_eq_true rfl) (Nat.le_of_ble_eq_true rfl) (Nat.le_of_ble_eq_true rfl) rfl rfl rfl rfl rfl rfl rfl
theorem d15_24 : decode (ab_C 15) 24 = .ok (.ifCond .ne 5, 3) := by decide +kernel
theorem e15_24 {d : Nat} {l0 l1 l2 : Option Value} {s0 : Int32} {σ : ab_St} {Q : Option Value → ab_St → Prop} : Ev d 15 24 [l0, l1, l2] [.int s0] σ Q = if s0 = 0 then Ev d 15 27 [l0, l1, l2] [] σ Q else Ev d 15 29 [l0, l1, l2] [] σ Q := ev_B (c := s0 = 0) d15_24 rfl rfl rfl rfl rfl
theorem d15_27 : decode (ab_C 15) 27 = .ok (.iload_n 2, 1) := by decide +kernel
theorem e15_27 {d : Nat} {l0 l1 : Option Value} {x : Int32} {σ : ab_St} {Q : Option Value → ab_St → Prop} : Ev d 15 27 [l0, l1, some (.int x)] [] σ Q = Ev d 15 28 [l0, l1, some (.int x)] [.int x] σ Q := ev_A1 d15_27 rfl
theorem d15_28 : decode (ab_C 15) 28 = .ok (.ireturn, 1) := by decide +kernel
theorem e15_28 {d : Nat} {l0 l1 l2 : Option Value} {s0 : Int32} {σ : ab_St} {Q : Option Value → ab_St → Prop} : Ev d 15 28 [l0, l1, l2] [.int s0] σ Q = Q (some (.int s0)) σ := ev_E d15_28 rfl rfl rfl rfl rfl rfl rfl
theorem d15_29 : decode (ab_C 15) 29 = .ok (.iinc 2 1, 3) := by decide +kernel
theorem e15_29 {d : Nat} {l0 l1 : Option Value} {x : Int32} {σ : ab_St} {Q : Option Value → ab_St → Prop} : Ev d 15 29 [l0, l1, some (.int x)] [] σ Q = Ev d 15 32 [l0, l1, some (.int (x + 1))] [] σ Q := ev_S d15_29 rfl rfl rfl rfl
theorem d15_32 : decode (ab_C 15) 32 = .ok (.goto (-26), 3) := by decide +kernel
theorem e15_32 {d : Nat} {l0 l1 l2 : Option Value} {σ : ab_St} {Q : Option Value → ab_St → Prop} : Ev d 15 32 [l0, l1, l2] [] σ Q = Ev d 15 6 [l0, l1, l2] [] σ Q := ev_J d15_32 rfl rfl rfl rfl rfl
theorem d15_35 : decode (ab_C 15) 35 = .ok (.aload_n 0, 1) := by decide +kernel
theorem e15_35 {d : Nat} {l1 l2 : Option Value} {x : Nat} {σ : ab_St} {Q : Option Value → ab_St → Prop} : Ev d 15 35 [some (.ref x), l1, l2] [] σ Q = Ev d 15 36 [some (.ref x), l1, l2] [.ref x] σ Q := ev_A1 d15_35 rfl
theorem d15_36 : decode (ab_C 15) 36 = .ok (.getfield 42, 3) := by decide +kernel
theorem e15_36 {d : Nat} {l0 l1 l2 : Option Value} {s0 : Nat} {σ : ab_St} {Q : Option Value → ab_St → Prop} : Ev d 15 36 [l0, l1, l2] [.ref s0] σ Q = (ab_k s0 = 2 ∧ Ev d 15 39 [l0, l1, l2] [.int (σ.1 s0 2)] σ Q) := ev_Hc (c := ab_k s0 = 2) d15_36 rfl rfl rfl rfl rfl rfl rfl rfl
theorem d15_39 : decode (ab_C 15) 39 = .ok (.iconst 2, 1) := by decide +kernel
theorem e15_39 {d : Nat} {l0 l1 l2 : Option Value} {s0 : Int32} {σ : ab_St} {Q : Option Value → ab_St → Prop} : Ev d 15 39 [l0, l1, l2] [.int s0] σ Q = Ev d 15 40 [l0, l1, l2] [.int 2, .int s0] σ Q := ev_A1 d15_39 rfl
theorem d15_40 : decode (ab_C 15) 40 = .ok (.if_icmp .ne 8, 3) := by decide +kernel
theorem e15_40 {d : Nat} {l0 l1 l2 : Option Value} {s0 : Int32} {s1 : Int32} {σ : ab_St} {Q : Option Value → ab_St → Prop} : Ev d 15 40 [l0, l1, l2] [.int s0, .int s1] σ Q = if s1 = s0 then Ev d 15 43 [l0, l1, l2] [] σ Q else Ev d 15 48 [l0, l1, l2] [] σ Q := ev_B (c := s1 = s0) d15_40 rfl rfl rfl rfl rfl
theorem d15_43 : decode (ab_C 15) 43 = .ok (.bipush (-9), 2) := by decide +kernel
theorem e15_43 {d : Nat} {l0 l1 l2 : Option Value} {σ : ab_St} {Q : Option Value → ab_St → Prop} : Ev d 15 43 [l0, l1, l2] [] σ Q = Ev d 15 45 [l0, l1, l2] [.int (-9)] σ Q := ev_A1 d15_43 rfl
theorem d15_45 : decode (ab_C 15) 45 = .ok (.goto 7, 3) := by decide +kernel
theorem e15_45 {d : Nat} {l0 l1 l2 : Option Value} {s0 : Int32} {σ : ab_St} {Q : Option Value → ab_St → Prop} : Ev d 15 45 [l0, l1, l2] [.int s0] σ Q = Ev d 15 52 [l0, l1, l2] [.int s0] σ Q := ev_J d15_45 rfl rfl rfl rfl rfl
theorem d15_48 : decode (ab_C 15) 48 = .ok (.aload_n 1, 1) := by decide +kernel
theorem e15_48 {d : Nat} {l0 l2 : Option Value} {x : Nat} {σ : ab_St} {Q : Option Value → ab_St → Prop} : Ev d 15 48 [l0, some (.ref x), l2] [] σ Q = Ev d 15 49 [l0, some (.ref x), l2] [.ref x] σ Q := ev_A1 d15_48 rfl
theorem d15_49 : decode (ab_C 15) 49 = .ok (.getfield 28, 3) := by decide +kernel
theorem e15_49 {d : Nat} {l0 l1 l2 : Option Value} {s0 : Nat} {σ : ab_St} {Q : Option Value → ab_St → Prop} : Ev d 15 49 [l0, l1, l2] [.ref s0] σ Q = (ab_k s0 = 1 ∧ Ev d 15 52 [l0, l1, l2] [.int (σ.1 s0 1)] σ Q) := ev_Hc (c := ab_k s0 = 1) d15_49 rfl rfl rfl rfl rfl rfl rfl rfl
theorem d15_52 : decode (ab_C 15) 52 = .ok (.ireturn, 1) := by decide +kernel
theorem e15_52 {d : Nat} {l0 l1 l2 : Option Value} {s0 : Int32} {σ : ab_St} {Q : Option Value → ab_St → Prop} : Ev d 15 52 [l0, l1, l2] [.int s0] σ Q = Q (some (.int s0)) σ := ev_E d15_52 rfl rfl rfl rfl rfl rfl rfl
/-! SaidLeast$Reader.begin()V -/
theorem d16_0 : decode (ab_C 16) 0 = .ok (.aload_n 0, 1) := by decide +kernel
theorem e16_0 {d : Nat} {x : Nat} {σ : ab_St} {Q : Option Value → ab_St → Prop} : Ev d 16 0 [some (.ref x)] [] σ Q = Ev d 16 1 [some (.ref x)] [.ref x] σ Q := ev_A1 d16_0 rfl
theorem d16_1 : decode (ab_C 16) 1 = .ok (.getfield 12, 3) := by decide +kernel
theorem e16_1 {d : Nat} {l0 : Option Value} {s0 : Nat} {σ : ab_St} {Q : Option Value → ab_St → Prop} : Ev d 16 1 [l0] [.ref s0] σ Q = (ab_k s0 = 2 ∧ Ev d 16 4 [l0] [.ref (ab_r s0 0)] σ Q) := ev_Hc (c := ab_k s0 = 2) d16_1 rfl rfl rfl rfl rfl rfl rfl rfl
theorem d16_4 : decode (ab_C 16) 4 = .ok (.iconst 0, 1) := by decide +kernel
theorem e16_4 {d : Nat} {l0 : Option Value} {s0 : Nat} {σ : ab_St} {Q : Option Value → ab_St → Prop} : Ev d 16 4 [l0] [.ref s0] σ Q = Ev d 16 5 [l0] [.int 0, .ref s0] σ Q := ev_A1 d16_4 rfl
theorem d16_5 : decode (ab_C 16) 5 = .ok (.putfield 45, 3) := by decide +kernel
theorem e16_5 {d : Nat} {l0 : Option Value} {s0 : Int32} {s1 : Nat} {σ : ab_St} {Q : Option Value → ab_St → Prop} : Ev d 16 5 [l0] [.int s0, .ref s1] σ Q = (ab_k s1 = 3 ∧ Ev d 16 8 [l0] [] (ab_wI σ s1 (upd (σ.1 s1) 4 s0)) Q) := ev_Hc (c := ab_k s1 = 3) d16_5 rfl rfl rfl rfl rfl rfl rfl rfl
theorem d16_8 : decode (ab_C 16) 8 = .ok (.aload_n 0, 1) := by decide +kernel
theorem e16_8 {d : Nat} {x : Nat} {σ : ab_St} {Q : Option Value → ab_St → Prop} : Ev d 16 8 [some (.ref x)] [] σ Q = Ev d 16 9 [some (.ref x)] [.ref x] σ Q := ev_A1 d16_8 rfl
theorem d16_9 : decode (ab_C 16) 9 = .ok (.getfield 12, 3) := by decide +kernel
theorem e16_9 {d : Nat} {l0 : Option Value} {s0 : Nat} {σ : ab_St} {Q : Option Value → ab_St → Prop} : Ev d 16 9 [l0] [.ref s0] σ Q = (ab_k s0 = 2 ∧ Ev d 16 12 [l0] [.ref (ab_r s0 0)] σ Q) := ev_Hc (c := ab_k s0 = 2) d16_9 rfl rfl rfl rfl rfl rfl rfl rfl
theorem d16_12 : decode (ab_C 16) 12 = .ok (.iconst 0, 1) := by decide +kernel
theorem e16_12 {d : Nat} {l0 : Option Value} {s0 : Nat} {σ : ab_St} {Q : Option Value → ab_St → Prop} : Ev d 16 12 [l0] [.ref s0] σ Q = Ev d 16 13 [l0] [.int 0, .ref s0] σ Q := ev_A1 d16_12 rfl
theorem d16_13 : decode (ab_C 16) 13 = .ok (.putfield 48, 3) := by decide +kernel
theorem e16_13 {d : Nat} {l0 : Option Value} {s0 : Int32} {s1 : Nat} {σ : ab_St} {Q : Option Value → ab_St → Prop} : Ev d 16 13 [l0] [.int s0, .ref s1] σ Q = (ab_k s1 = 3 ∧ Ev d 16 16 [l0] [] (ab_wI σ s1 (upd (σ.1 s1) 5 s0)) Q) := ev_Hc (c := ab_k s1 = 3) d16_13 rfl rfl rfl rfl rfl rfl rfl rfl
theorem d16_16 : decode (ab_C 16) 16 = .ok (.aload_n 0, 1) := by decide +kernel
theorem e16_16 {d : Nat} {x : Nat} {σ : ab_St} {Q : Option Value → ab_St → Prop} : Ev d 16 16 [some (.ref x)] [] σ Q = Ev d 16 17 [some (.ref x)] [.ref x] σ Q := ev_A1 d16_16 rfl
theorem d16_17 : decode (ab_C 16) 17 = .ok (.getfield 21, 3) := by decide +kernel
theorem e16_17 {d : Nat} {l0 : Option Value} {s0 : Nat} {σ : ab_St} {Q : Option Value → ab_St → Prop} : Ev d 16 17 [l0] [.ref s0] σ Q = (ab_k s0 = 2 ∧ Ev d 16 20 [l0] [.ref (ab_r s0 1)] σ Q) := ev_Hc (c := ab_k s0 = 2) d16_17 rfl rfl rfl rfl rfl rfl rfl rfl
theorem d16_20 : decode (ab_C 16) 20 = .ok (.getfield 51, 3) := by decide +kernel
theorem e16_20 {d : Nat} {l0 : Option Value} {s0 : Nat} {σ : ab_St} {Q : Option Value → ab_St → Prop} : Ev d 16 20 [l0] [.ref s0] σ Q = (ab_k s0 = 4 ∧ Ev d 16 23 [l0] [.ref (ab_r s0 0)] σ Q) := ev_Hc (c := ab_k s0 = 4) d16_20 rfl rfl rfl rfl rfl rfl rfl rfl
theorem d16_23 : decode (ab_C 16) 23 = .ok (.iconst 0, 1) := by decide +kernel
theorem e16_23 {d : Nat} {l0 : Option Value} {s0 : Nat} {σ : ab_St} {Q : Option Value → ab_St → Prop} : Ev d 16 23 [l0] [.ref s0] σ Q = Ev d 16 24 [l0] [.int 0, .ref s0] σ Q := ev_A1 d16_23 rfl
theorem d16_24 : decode (ab_C 16) 24 = .ok (.invokestatic 55, 3) := by decide +kernel
theorem e16_24 {d : Nat} {l0 : Option Value} {s0 : Int32} {s1 : Nat} {σ : ab_St} {Q : Option Value → ab_St → Prop} : Ev (d + 1) 16 24 [l0] [.int s0, .ref s1] σ Q = Ev d 17 0 [some (.ref s1), some (.int s0), none, none] [] σ (fun r σ2 => Ev (d + 1) 16 27 [l0] (r.toList ++ []) σ2 Q) := ev_K0 (y := 17) (ls := [l0]) (st := [.int s0, .ref s1]) (as := [.ref s1, .int s0]) (rest := []) d16_24 rfl rfl rfl rfl rfl rfl rfl rfl
theorem d16_27 : decode (ab_C 16) 27 = .ok (.aload_n 0, 1) := by decide +kernel
theorem e16_27 {d : Nat} {x : Nat} {σ : ab_St} {Q : Option Value → ab_St → Prop} : Ev d 16 27 [some (.ref x)] [] σ Q = Ev d 16 28 [some (.ref x)] [.ref x] σ Q := ev_A1 d16_27 rfl
theorem d16_28 : decode (ab_C 16) 28 = .ok (.getfield 21, 3) := by decide +kernel
theorem e16_28 {d : Nat} {l0 : Option Value} {s0 : Nat} {σ : ab_St} {Q : Option Value → ab_St → Prop} : Ev d 16 28 [l0] [.ref s0] σ Q = (ab_k s0 = 2 ∧ Ev d 16 31 [l0] [.ref (ab_r s0 1)] σ Q) := ev_Hc (c := ab_k s0 = 2) d16_28 rfl rfl rfl rfl rfl rfl rfl rfl
theorem d16_31 : decode (ab_C 16) 31 = .ok (.iconst 0, 1) := by decide +kernel
theorem e16_31 {d : Nat} {l0 : Option Value} {s0 : Nat} {σ : ab_St} {Q : Option Value → ab_St → Prop} : Ev d 16 31 [l0] [.ref s0] σ Q = Ev d 16 32 [l0] [.int 0, .ref s0] σ Q := ev_A1 d16_31 rfl
theorem d16_32 : decode (ab_C 16) 32 = .ok (.putfield 61, 3) := by decide +kernel
theorem e16_32 {d : Nat} {l0 : Option Value} {s0 : Int32} {s1 : Nat} {σ : ab_St} {Q : Option Value → ab_St → Prop} : Ev d 16 32 [l0] [.int s0, .ref s1] σ Q = (ab_k s1 = 4 ∧ Ev d 16 35 [l0] [] (ab_wI σ s1 (upd (σ.1 s1) 1 s0)) Q) := ev_Hc (c := ab_k s1 = 4) d16_32 rfl rfl rfl rfl rfl rfl rfl rfl
theorem d16_35 : decode (ab_C 16) 35 = .ok (.aload_n 0, 1) := by decide +kernel
theorem e16_35 {d : Nat} {x : Nat} {σ : ab_St} {Q : Option Value → ab_St → Prop} : Ev d 16 35 [some (.ref x)] [] σ Q = Ev d 16 36 [some (.ref x)] [.ref x] σ Q := ev_A1 d16_35 rfl
theorem d16_36 : decode (ab_C 16) 36 = .ok (.getfield 21, 3) := by decide +kernel
theorem e16_36 {d : Nat} {l0 : Option Value} {s0 : Nat} {σ : ab_St} {Q : Option Value → ab_St → Prop} : Ev d 16 36 [l0] [.ref s0] σ Q = (ab_k s0 = 2 ∧ Ev d 16 39 [l0] [.ref (ab_r s0 1)] σ Q) := ev_Hc (c := ab_k s0 = 2) d16_36 rfl rfl rfl rfl rfl rfl rfl rfl
theorem d16_39 : decode (ab_C 16) 39 = .ok (.iconst 0, 1) := by decide +kernel
theorem e16_39 {d : Nat} {l0 : Option Value} {s0 : Nat} {σ : ab_St} {Q : Option Value → ab_St → Prop} : Ev d 16 39 [l0] [.ref s0] σ Q = Ev d 16 40 [l0] [.int 0, .ref s0] σ Q := ev_A1 d16_39 rfl
theorem d16_40 : decode (ab_C 16) 40 = .ok (.putfield 64, 3) := by decide +kernel
theorem e16_40 {d : Nat} {l0 : Option Value} {s0 : Int32} {s1 : Nat} {σ : ab_St} {Q : Option Value → ab_St → Prop} : Ev d 16 40 [l0] [.int s0, .ref s1] σ Q = (ab_k s1 = 4 ∧ Ev d 16 43 [l0] [] (ab_wI σ s1 (upd (σ.1 s1) 4 s0)) Q) := ev_Hc (c := ab_k s1 = 4) d16_40 rfl rfl rfl rfl rfl rfl rfl rfl
theorem d16_43 : decode (ab_C 16) 43 = .ok (.aload_n 0, 1) := by decide +kernel
theorem e16_43 {d : Nat} {x : Nat} {σ : ab_St} {Q : Option Value → ab_St → Prop} : Ev d 16 43 [some (.ref x)] [] σ Q = Ev d 16 44 [some (.ref x)] [.ref x] σ Q := ev_A1 d16_43 rfl
theorem d16_44 : decode (ab_C 16) 44 = .ok (.iconst 0, 1) := by decide +kernel
theorem e16_44 {d : Nat} {l0 : Option Value} {s0 : Nat} {σ : ab_St} {Q : Option Value → ab_St → Prop} : Ev d 16 44 [l0] [.ref s0] σ Q = Ev d 16 45 [l0] [.int 0, .ref s0] σ Q := ev_A1 d16_44 rfl
theorem d16_45 : decode (ab_C 16) 45 = .ok (.putfield 67, 3) := by decide +kernel
theorem e16_45 {d : Nat} {l0 : Option Value} {s0 : Int32} {s1 : Nat} {σ : ab_St} {Q : Option Value → ab_St → Prop} : Ev d 16 45 [l0] [.int s0, .ref s1] σ Q = (ab_k s1 = 2 ∧ Ev d 16 48 [l0] [] (ab_wI σ s1 (upd (σ.1 s1) 3 s0)) Q) := ev_Hc (c := ab_k s1 = 2) d16_45 rfl rfl rfl rfl rfl rfl rfl rfl
theorem d16_48 : decode (ab_C 16) 48 = .ok (.aload_n 0, 1) := by decide +kernel
theorem e16_48 {d : Nat} {x : Nat} {σ : ab_St} {Q : Option Value → ab_St → Prop} : Ev d 16 48 [some (.ref x)] [] σ Q = Ev d 16 49 [some (.ref x)] [.ref x] σ Q := ev_A1 d16_48 rfl
theorem d16_49 : decode (ab_C 16) 49 = .ok (.iconst 0, 1) := by decide +kernel
theorem e16_49 {d : Nat} {l0 : Option Value} {s0 : Nat} {σ : ab_St} {Q : Option Value → ab_St → Prop} : Ev d 16 49 [l0] [.ref s0] σ Q = Ev d 16 50 [l0] [.int 0, .ref s0] σ Q := ev_A1 d16_49 rfl
theorem d16_50 : decode (ab_C 16) 50 = .ok (.putfield 42, 3) := by decide +kernel
theorem e16_50 {d : Nat} {l0 : Option Value} {s0 : Int32} {s1 : Nat} {σ : ab_St} {Q : Option Value → ab_St → Prop} : Ev d 16 50 [l0] [.int s0, .ref s1] σ Q = (ab_k s1 = 2 ∧ Ev d 16 53 [l0] [] (ab_wI σ s1 (upd (σ.1 s1) 2 s0)) Q) := ev_Hc (c := ab_k s1 = 2) d16_50 rfl rfl rfl rfl rfl rfl rfl rfl
theorem d16_53 : decode (ab_C 16) 53 = .ok (.return_, 1) := by decide +kernel
theorem e16_53 {d : Nat} {l0 : Option Value} {σ : ab_St} {Q : Option Value → ab_St → Prop} : Ev d 16 53 [l0] [] σ Q = Q none σ := ev_E d16_53 rfl rfl rfl rfl rfl rfl rfl
/-! java/util/Arrays.fill([II)V -/
theorem d17_0 : decode (ab_C 17) 0 = .ok (.iconst 0, 1) := by decide +kernel
theorem e17_0 {d : Nat} {l0 l1 l2 l3 : Option Value} {σ : ab_St} {Q : Option Value → ab_St → Prop} : Ev d 17 0 [l0, l1, l2, l3] [] σ Q = Ev d 17 1 [l0, l1, l2, l3] [.int 0] σ Q := ev_A1 d17_0 rfl
theorem d17_1 : decode (ab_C 17) 1 = .ok (.istore_n 2, 1) := by decide +kernel
theorem e17_1 {d : Nat} {l0 l1 l2 l3 : Option Value} {s0 : Int32} {σ : ab_St} {Q : Option Value → ab_St → Prop} : Ev d 17 1 [l0, l1, l2, l3] [.int s0] σ Q = Ev d 17 2 [l0, l1, some (.int s0), l3] [] σ Q := ev_S d17_1 rfl rfl rfl rfl
theorem d17_2 : decode (ab_C 17) 2 = .ok (.aload_n 0, 1) := by decide +kernel
theorem e17_2 {d : Nat} {l1 l2 l3 : Option Value} {x : Nat} {σ : ab_St} {Q : Option Value → ab_St → Prop} : Ev d 17 2 [some (.ref x), l1, l2, l3] [] σ Q = Ev d 17 3 [some (.ref x), l1, l2, l3] [.ref x] σ Q := ev_A1 d17_2 rfl
theorem d17_3 : decode (ab_C 17) 3 = .ok (.arraylength, 1) := by decide +kernel
theorem e17_3 {d : Nat} {l0 l1 l2 l3 : Option Value} {s0 : Nat} {σ : ab_St} {Q : Option Value → ab_St → Prop} : Ev d 17 3 [l0, l1, l2, l3] [.ref s0] σ Q = ((100 ≤ ab_k s0 ∧ ab_k s0 ≤ 103) ∧ Ev d 17 4 [l0, l1, l2, l3] [.int (Int32.ofNat (ab_n s0))] σ Q) := ev_Hc (c := 100 ≤ ab_k s0 ∧ ab_k s0 ≤ 103) d17_3 rfl rfl rfl rfl rfl rfl rfl rfl
theorem d17_4 : decode (ab_C 17) 4 = .ok (.istore_n 3, 1) := by decide +kernel
theorem e17_4 {d : Nat} {l0 l1 l2 l3 : Option Value} {s0 : Int32} {σ : ab_St} {Q : Option Value → ab_St → Prop} : Ev d 17 4 [l0, l1, l2, l3] [.int s0] σ Q = Ev d 17 5 [l0, l1, l2, some (.int s0)] [] σ Q := ev_S d17_4 rfl rfl rfl rfl
theorem d17_5 : decode (ab_C 17) 5 = .ok (.iload_n 2, 1) := by decide +kernel
theorem e17_5 {d : Nat} {l0 l1 l3 : Option Value} {x : Int32} {σ : ab_St} {Q : Option Value → ab_St → Prop} : Ev d 17 5 [l0, l1, some (.int x), l3] [] σ Q = Ev d 17 6 [l0, l1, some (.int x), l3] [.int x] σ Q := ev_A1 d17_5 rfl
theorem d17_6 : decode (ab_C 17) 6 = .ok (.iload_n 3, 1) := by decide +kernel
theorem e17_6 {d : Nat} {l0 l1 l2 : Option Value} {x : Int32} {s0 : Int32} {σ : ab_St} {Q : Option Value → ab_St → Prop} : Ev d 17 6 [l0, l1, l2, some (.int x)] [.int s0] σ Q = Ev d 17 7 [l0, l1, l2, some (.int x)] [.int x, .int s0] σ Q := ev_A1 d17_6 rfl
theorem d17_7 : decode (ab_C 17) 7 = .ok (.if_icmp .ge 13, 3) := by decide +kernel
theorem e17_7 {d : Nat} {l0 l1 l2 l3 : Option Value} {s0 : Int32} {s1 : Int32} {σ : ab_St} {Q : Option Value → ab_St → Prop} : Ev d 17 7 [l0, l1, l2, l3] [.int s0, .int s1] σ Q = if s0 ≤ s1 then Ev d 17 20 [l0, l1, l2, l3] [] σ Q else Ev d 17 10 [l0, l1, l2, l3] [] σ Q := ev_B (c := s0 ≤ s1) d17_7 rfl rfl rfl rfl rfl
theorem d17_10 : decode (ab_C 17) 10 = .ok (.aload_n 0, 1) := by decide +kernel
theorem e17_10 {d : Nat} {l1 l2 l3 : Option Value} {x : Nat} {σ : ab_St} {Q : Option Value → ab_St → Prop} : Ev d 17 10 [some (.ref x), l1, l2, l3] [] σ Q = Ev d 17 11 [some (.ref x), l1, l2, l3] [.ref x] σ Q := ev_A1 d17_10 rfl
theorem d17_11 : decode (ab_C 17) 11 = .ok (.iload_n 2, 1) := by decide +kernel
theorem e17_11 {d : Nat} {l0 l1 l3 : Option Value} {x : Int32} {s0 : Nat} {σ : ab_St} {Q : Option Value → ab_St → Prop} : Ev d 17 11 [l0, l1, some (.int x), l3] [.ref s0] σ Q = Ev d 17 12 [l0, l1, some (.int x), l3] [.int x, .ref s0] σ Q := ev_A1 d17_11 rfl
theorem d17_12 : decode (ab_C 17) 12 = .ok (.iload_n 1, 1) := by decide +kernel
theorem e17_12 {d : Nat} {l0 l2 l3 : Option Value} {x : Int32} {s0 : Int32} {s1 : Nat} {σ : ab_St} {Q : Option Value → ab_St → Prop} : Ev d 17 12 [l0, some (.int x), l2, l3] [.int s0, .ref s1] σ Q = Ev d 17 13 [l0, some (.int x), l2, l3] [.int x, .int s0, .ref s1] σ Q := ev_A1 d17_12 rfl
theorem d17_13 : decode (ab_C 17) 13 = .ok (.iastore, 1) := by decide +kernel
theorem e17_13 {d : Nat} {l0 l1 l2 l3 : Option Value} {s0 : Int32} {s1 : Int32} {s2 : Nat} {σ : ab_St} {Q : Option Value → ab_St → Prop} : Ev d 17 13 [l0, l1, l2, l3] [.int s0, .int s1, .ref s2] σ Q = ((ab_k s2 = 100 ∧ ab_in s1 (ab_n s2)) ∧ Ev d 17 14 [l0, l1, l2, l3] [] (ab_wI σ s2 (upd (σ.1 s2) s1.toNatClampNeg s0)) Q) := ev_Hc (c := ab_k s2 = 100 ∧ ab_in s1 (ab_n s2)) d17_13 rfl rfl rfl rfl rfl rfl rfl rfl
theorem d17_14 : decode (ab_C 17) 14 = .ok (.iinc 2 1, 3) := by decide +kernel
theorem e17_14 {d : Nat} {l0 l1 l3 : Option Value} {x : Int32} {σ : ab_St} {Q : Option Value → ab_St → Prop} : Ev d 17 14 [l0, l1, some (.int x), l3] [] σ Q = Ev d 17 17 [l0, l1, some (.int (x + 1)), l3] [] σ Q := ev_S d17_14 rfl rfl rfl rfl
theorem d17_17 : decode (ab_C 17) 17 = .ok (.goto (-12), 3) := by decide +kernel
theorem e17_17 {d : Nat} {l0 l1 l2 l3 : Option Value} {σ : ab_St} {Q : Option Value → ab_St → Prop} : Ev d 17 17 [l0, l1, l2, l3] [] σ Q = Ev d 17 5 [l0, l1, l2, l3] [] σ Q := ev_J d17_17 rfl rfl rfl rfl rfl
theorem d17_20 : decode (ab_C 17) 20 = .ok (.return_, 1) := by decide +kernel
theorem e17_20 {d : Nat} {l0 l1 l2 l3 : Option Value} {σ : ab_St} {Q : Option Value → ab_St → Prop} : Ev d 17 20 [l0, l1, l2, l3] [] σ Q = Q none σ := ev_E d17_20 rfl rfl rfl rfl rfl rfl rfl
/-! SaidLeast$Reader.takes(I)Z -/
theorem d18_0 : decode (ab_C 18) 0 = .ok (.aload_n 0, 1) := by decide +kernel
theorem e18_0 {d : Nat} {l1 : Option Value} {x : Nat} {σ : ab_St} {Q : Option Value → ab_St → Prop} : Ev d 18 0 [some (.ref x), l1] [] σ Q = Ev d 18 1 [some (.ref x), l1] [.ref x] σ Q := ev_A1 d18_0 rfl
theorem d18_1 : decode (ab_C 18) 1 = .ok (.getfield 42, 3) := by decide +kernel
theorem e18_1 {d : Nat} {l0 l1 : Option Value} {s0 : Nat} {σ : ab_St} {Q : Option Value → ab_St → Prop} : Ev d 18 1 [l0, l1] [.ref s0] σ Q = (ab_k s0 = 2 ∧ Ev d 18 4 [l0, l1] [.int (σ.1 s0 2)] σ Q) := ev_Hc (c := ab_k s0 = 2) d18_1 rfl rfl rfl rfl rfl rfl rfl rfl
theorem d18_4 : decode (ab_C 18) 4 = .ok (.tableswitch 127 0 7 #[48, 54, 63, 82, 91, 100, 109, 118], 48) := by decide +kernel
theorem e18_4 {d : Nat} {l0 l1 : Option Value} {s0 : Int32} {σ : ab_St} {Q : Option Value → ab_St → Prop} : Ev d 18 4 [l0, l1] [.int s0] σ Q = if s0 = 0 then Ev d 18 52 [l0, l1] [] σ Q else if s0 = 1 then Ev d 18 58 [l0, l1] [] σ Q else if s0 = 2 then Ev d 18 67 [l0, l1] [] σ Q else if s0 = 3 then Ev d 18 86 [l0, l1] [] σ Q else if s0 = 4 then Ev d 18 95 [l0, l1] [] σ Q else if s0 = 5 then Ev d 18 104 [l0, l1] [] σ Q else if s0 = 6 then Ev d 18 113 [l0, l1] [] σ Q else if s0 = 7 then Ev d 18 122 [l0, l1] [] σ Q else Ev d 18 131 [l0, l1] [] σ Q := ev_T (ts := [52, 58, 67, 86, 95, 104, 113, 122]) (df := 131) d18_4 (by decide +kernel)
theorem d18_52 : decode (ab_C 18) 52 = .ok (.aload_n 0, 1) := by decide +kernel
theorem e18_52 {d : Nat} {l1 : Option Value} {x : Nat} {σ : ab_St} {Q : Option Value → ab_St → Prop} : Ev d 18 52 [some (.ref x), l1] [] σ Q = Ev d 18 53 [some (.ref x), l1] [.ref x] σ Q := ev_A1 d18_52 rfl
theorem d18_53 : decode (ab_C 18) 53 = .ok (.iload_n 1, 1) := by decide +kernel
theorem e18_53 {d : Nat} {l0 : Option Value} {x : Int32} {s0 : Nat} {σ : ab_St} {Q : Option Value → ab_St → Prop} : Ev d 18 53 [l0, some (.int x)] [.ref s0] σ Q = Ev d 18 54 [l0, some (.int x)] [.int x, .ref s0] σ Q := ev_A1 d18_53 rfl
theorem d18_54 : decode (ab_C 18) 54 = .ok (.invokevirtual 70, 3) := by decide +kernel
theorem e18_54 {d : Nat} {l0 l1 : Option Value} {s0 : Int32} {s1 : Nat} {σ : ab_St} {Q : Option Value → ab_St → Prop} : Ev (d + 1) 18 54 [l0, l1] [.int s0, .ref s1] σ Q = (ab_k s1 = 2 ∧ Ev d 19 0 [some (.ref s1), some (.int s0)] [] σ (fun r σ2 => Ev (d + 1) 18 57 [l0, l1] (r.toList ++ []) σ2 Q)) := ev_KV (b := s1) (ls := [l0, l1]) (st := [.int s0, .ref s1]) (as := [.int s0]) (rest := []) d18_54 rfl rfl rfl (Nat.le_of_ble_eq_true rfl) (Nat.le_of_ble_eq_true rfl) (Nat.le_of_ble_eq_true rfl) rfl rfl rfl rfl rfl rfl rfl
theorem d18_57 : decode (ab_C 18) 57 = .ok (.ireturn, 1) := by decide +kernel
theorem e18_57 {d : Nat} {l0 l1 : Option Value} {s0 : Int32} {σ : ab_St} {Q : Option Value → ab_St → Prop} : Ev d 18 57 [l0, l1] [.int s0] σ Q = ((s0 = 0 ∨ s0 = 1) ∧ Q (some (.int s0)) σ) := ev_Z d18_57 rfl
theorem d18_58 : decode (ab_C 18) 58 = .ok (.aload_n 0, 1) := by decide +kernel
theorem e18_58 {d : Nat} {l1 : Option Value} {x : Nat} {σ : ab_St} {Q : Option Value → ab_St → Prop} : Ev d 18 58 [some (.ref x), l1] [] σ Q = Ev d 18 59 [some (.ref x), l1] [.ref x] σ Q := ev_A1 d18_58 rfl
theorem d18_59 : decode (ab_C 18) 59 = .ok (.iload_n 1, 1) := by decide +kernel
theorem e18_59 {d : Nat} {l0 : Option Value} {x : Int32} {s0 : Nat} {σ : ab_St} {Q : Option Value → ab_St → Prop} : Ev d 18 59 [l0, some (.int x)] [.ref s0] σ Q = Ev d 18 60 [l0, some (.int x)] [.int x, .ref s0] σ Q := ev_A1 d18_59 rfl
theorem d18_60 : decode (ab_C 18) 60 = .ok (.bipush 48, 2) := by decide +kernel
theorem e18_60 {d : Nat} {l0 l1 : Option Value} {s0 : Int32} {s1 : Nat} {σ : ab_St} {Q : Option Value → ab_St → Prop} : Ev d 18 60 [l0, l1] [.int s0, .ref s1] σ Q = Ev d 18 62 [l0, l1] [.int 48, .int s0, .ref s1] σ Q := ev_A1 d18_60 rfl
theorem d18_62 : decode (ab_C 18) 62 = .ok (.isub, 1) := by decide +kernel
theorem e18_62 {d : Nat} {l0 l1 : Option Value} {s0 : Int32} {s1 : Int32} {s2 : Nat} {σ : ab_St} {Q : Option Value → ab_St → Prop} : Ev d 18 62 [l0, l1] [.int s0, .int s1, .ref s2] σ Q = Ev d 18 63 [l0, l1] [.int (s1 - s0), .ref s2] σ Q := ev_A2 d18_62 rfl rfl
theorem d18_63 : decode (ab_C 18) 63 = .ok (.invokevirtual 73, 3) := by decide +kernel
theorem e18_63 {d : Nat} {l0 l1 : Option Value} {s0 : Int32} {s1 : Nat} {σ : ab_St} {Q : Option Value → ab_St → Prop} : Ev (d + 1) 18 63 [l0, l1] [.int s0, .ref s1] σ Q = (ab_k s1 = 2 ∧ Ev d 20 0 [some (.ref s1), some (.int s0)] [] σ (fun r σ2 => Ev (d + 1) 18 66 [l0, l1] (r.toList ++ []) σ2 Q)) := ev_KV (b := s1) (ls := [l0, l1]) (st := [.int s0, .ref s1]) (as := [.int s0]) (rest := []) d18_63 rfl rfl rfl (Nat.le_of_ble_eq_true rfl) (Nat.le_of_ble_eq_true rfl) (Nat.le_of_ble_eq_true rfl) rfl rfl rfl rfl rfl rfl rfl
theorem d18_66 : decode (ab_C 18) 66 = .ok (.ireturn, 1) := by decide +kernel
theorem e18_66 {d : Nat} {l0 l1 : Option Value} {s0 : Int32} {σ : ab_St} {Q : Option Value → ab_St → Prop} : Ev d 18 66 [l0, l1] [.int s0] σ Q = ((s0 = 0 ∨ s0 = 1) ∧ Q (some (.int s0)) σ) := ev_Z d18_66 rfl
theorem d18_67 : decode (ab_C 18) 67 = .ok (.iload_n 1, 1) := by decide +kernel
theorem e18_67 {d : Nat} {l0 : Option Value} {x : Int32} {σ : ab_St} {Q : Option Value → ab_St → Prop} : Ev d 18 67 [l0, some (.int x)] [] σ Q = Ev d 18 68 [l0, some (.int x)] [.int x] σ Q := ev_A1 d18_67 rfl
theorem d18_68 : decode (ab_C 18) 68 = .ok (.bipush 83, 2) := by decide +kernel
theorem e18_68 {d : Nat} {l0 l1 : Option Value} {s0 : Int32} {σ : ab_St} {Q : Option Value → ab_St → Prop} : Ev d 18 68 [l0, l1] [.int s0] σ Q = Ev d 18 70 [l0, l1] [.int 83, .int s0] σ Q := ev_A1 d18_68 rfl
theorem d18_70 : decode (ab_C 18) 70 = .ok (.if_icmp .ne 10, 3) := by decide +kernel
theorem e18_70 {d : Nat} {l0 l1 : Option Value} {s0 : Int32} {s1 : Int32} {σ : ab_St} {Q : Option Value → ab_St → Prop} : Ev d 18 70 [l0, l1] [.int s0, .int s1] σ Q = if s1 = s0 then Ev d 18 73 [l0, l1] [] σ Q else Ev d 18 80 [l0, l1] [] σ Q := ev_B (c := s1 = s0) d18_70 rfl rfl rfl rfl rfl
theorem d18_73 : decode (ab_C 18) 73 = .ok (.aload_n 0, 1) := by decide +kernel
theorem e18_73 {d : Nat} {l1 : Option Value} {x : Nat} {σ : ab_St} {Q : Option Value → ab_St → Prop} : Ev d 18 73 [some (.ref x), l1] [] σ Q = Ev d 18 74 [some (.ref x), l1] [.ref x] σ Q := ev_A1 d18_73 rfl
theorem d18_74 : decode (ab_C 18) 74 = .ok (.invokevirtual 76, 3) := by decide +kernel
theorem e18_74 {d : Nat} {l0 l1 : Option Value} {s0 : Nat} {σ : ab_St} {Q : Option Value → ab_St → Prop} : Ev (d + 1) 18 74 [l0, l1] [.ref s0] σ Q = (ab_k s0 = 2 ∧ Ev d 21 0 [some (.ref s0)] [] σ (fun r σ2 => Ev (d + 1) 18 77 [l0, l1] (r.toList ++ []) σ2 Q)) := ev_KV (b := s0) (ls := [l0, l1]) (st := [.ref s0]) (as := []) (rest := []) d18_74 rfl rfl rfl (Nat.le_of_ble_eq_true rfl) (Nat.le_of_ble_eq_true rfl) (Nat.le_of_ble_eq_true rfl) rfl rfl rfl rfl rfl rfl rfl
theorem d18_77 : decode (ab_C 18) 77 = .ok (.goto 8, 3) := by decide +kernel
theorem e18_77 {d : Nat} {l0 l1 : Option Value} {s0 : Int32} {σ : ab_St} {Q : Option Value → ab_St → Prop} : Ev d 18 77 [l0, l1] [.int s0] σ Q = Ev d 18 85 [l0, l1] [.int s0] σ Q := ev_J d18_77 rfl rfl rfl rfl rfl
theorem d18_80 : decode (ab_C 18) 80 = .ok (.aload_n 0, 1) := by decide +kernel
theorem e18_80 {d : Nat} {l1 : Option Value} {x : Nat} {σ : ab_St} {Q : Option Value → ab_St → Prop} : Ev d 18 80 [some (.ref x), l1] [] σ Q = Ev d 18 81 [some (.ref x), l1] [.ref x] σ Q := ev_A1 d18_80 rfl
theorem d18_81 : decode (ab_C 18) 81 = .ok (.iload_n 1, 1) := by decide +kernel
theorem e18_81 {d : Nat} {l0 : Option Value} {x : Int32} {s0 : Nat} {σ : ab_St} {Q : Option Value → ab_St → Prop} : Ev d 18 81 [l0, some (.int x)] [.ref s0] σ Q = Ev d 18 82 [l0, some (.int x)] [.int x, .ref s0] σ Q := ev_A1 d18_81 rfl
theorem d18_82 : decode (ab_C 18) 82 = .ok (.invokevirtual 80, 3) := by decide +kernel
theorem e18_82 {d : Nat} {l0 l1 : Option Value} {s0 : Int32} {s1 : Nat} {σ : ab_St} {Q : Option Value → ab_St → Prop} : Ev (d + 1) 18 82 [l0, l1] [.int s0, .ref s1] σ Q = (ab_k s1 = 2 ∧ Ev d 22 0 [some (.ref s1), some (.int s0)] [] σ (fun r σ2 => Ev (d + 1) 18 85 [l0, l1] (r.toList ++ []) σ2 Q)) := ev_KV (b := s1) (ls := [l0, l1]) (st := [.int s0, .ref s1]) (as := [.int s0]) (rest := []) d18_82 rfl rfl rfl (Nat.le_of_ble_eq_true rfl) (Nat.le_of_ble_eq_true rfl) (Nat.le_of_ble_eq_true rfl) rfl rfl rfl rfl rfl rfl rfl
theorem d18_85 : decode (ab_C 18) 85 = .ok (.ireturn, 1) := by decide +kernel
theorem e18_85 {d : Nat} {l0 l1 : Option Value} {s0 : Int32} {σ : ab_St} {Q : Option Value → ab_St → Prop} : Ev d 18 85 [l0, l1] [.int s0] σ Q = ((s0 = 0 ∨ s0 = 1) ∧ Q (some (.int s0)) σ) := ev_Z d18_85 rfl
theorem d18_86 : decode (ab_C 18) 86 = .ok (.aload_n 0, 1) := by decide +kernel
theorem e18_86 {d : Nat} {l1 : Option Value} {x : Nat} {σ : ab_St} {Q : Option Value → ab_St → Prop} : Ev d 18 86 [some (.ref x), l1] [] σ Q = Ev d 18 87 [some (.ref x), l1] [.ref x] σ Q := ev_A1 d18_86 rfl
theorem d18_87 : decode (ab_C 18) 87 = .ok (.iload_n 1, 1) := by decide +kernel
theorem e18_87 {d : Nat} {l0 : Option Value} {x : Int32} {s0 : Nat} {σ : ab_St} {Q : Option Value → ab_St → Prop} : Ev d 18 87 [l0, some (.int x)] [.ref s0] σ Q = Ev d 18 88 [l0, some (.int x)] [.int x, .ref s0] σ Q := ev_A1 d18_87 rfl
theorem d18_88 : decode (ab_C 18) 88 = .ok (.bipush 48, 2) := by decide +kernel
theorem e18_88 {d : Nat} {l0 l1 : Option Value} {s0 : Int32} {s1 : Nat} {σ : ab_St} {Q : Option Value → ab_St → Prop} : Ev d 18 88 [l0, l1] [.int s0, .ref s1] σ Q = Ev d 18 90 [l0, l1] [.int 48, .int s0, .ref s1] σ Q := ev_A1 d18_88 rfl
theorem d18_90 : decode (ab_C 18) 90 = .ok (.isub, 1) := by decide +kernel
theorem e18_90 {d : Nat} {l0 l1 : Option Value} {s0 : Int32} {s1 : Int32} {s2 : Nat} {σ : ab_St} {Q : Option Value → ab_St → Prop} : Ev d 18 90 [l0, l1] [.int s0, .int s1, .ref s2] σ Q = Ev d 18 91 [l0, l1] [.int (s1 - s0), .ref s2] σ Q := ev_A2 d18_90 rfl rfl
theorem d18_91 : decode (ab_C 18) 91 = .ok (.invokevirtual 83, 3) := by decide +kernel
theorem e18_91 {d : Nat} {l0 l1 : Option Value} {s0 : Int32} {s1 : Nat} {σ : ab_St} {Q : Option Value → ab_St → Prop} : Ev (d + 1) 18 91 [l0, l1] [.int s0, .ref s1] σ Q = (ab_k s1 = 2 ∧ Ev d 23 0 [some (.ref s1), some (.int s0)] [] σ (fun r σ2 => Ev (d + 1) 18 94 [l0, l1] (r.toList ++ []) σ2 Q)) := ev_KV (b := s1) (ls := [l0, l1]) (st := [.int s0, .ref s1]) (as := [.int s0]) (rest := []) d18_91 rfl rfl rfl (Nat.le_of_ble_eq_true rfl) (Nat.le_of_ble_eq_true rfl) (Nat.le_of_ble_eq_true rfl) rfl rfl rfl rfl rfl rfl rfl
theorem d18_94 : decode (ab_C 18) 94 = .ok (.ireturn, 1) := by decide +kernel
theorem e18_94 {d : Nat} {l0 l1 : Option Value} {s0 : Int32} {σ : ab_St} {Q : Option Value → ab_St → Prop} : Ev d 18 94 [l0, l1] [.int s0] σ Q = ((s0 = 0 ∨ s0 = 1) ∧ Q (some (.int s0)) σ) := ev_Z d18_94 rfl
theorem d18_95 : decode (ab_C 18) 95 = .ok (.aload_n 0, 1) := by decide +kernel
theorem e18_95 {d : Nat} {l1 : Option Value} {x : Nat} {σ : ab_St} {Q : Option Value → ab_St → Prop} : Ev d 18 95 [some (.ref x), l1] [] σ Q = Ev d 18 96 [some (.ref x), l1] [.ref x] σ Q := ev_A1 d18_95 rfl
theorem d18_96 : decode (ab_C 18) 96 = .ok (.iload_n 1, 1) := by decide +kernel
theorem e18_96 {d : Nat} {l0 : Option Value} {x : Int32} {s0 : Nat} {σ : ab_St} {Q : Option Value → ab_St → Prop} : Ev d 18 96 [l0, some (.int x)] [.ref s0] σ Q = Ev d 18 97 [l0, some (.int x)] [.int x, .ref s0] σ Q := ev_A1 d18_96 rfl
theorem d18_97 : decode (ab_C 18) 97 = .ok (.bipush 48, 2) := by decide +kernel
theorem e18_97 {d : Nat} {l0 l1 : Option Value} {s0 : Int32} {s1 : Nat} {σ : ab_St} {Q : Option Value → ab_St → Prop} : Ev d 18 97 [l0, l1] [.int s0, .ref s1] σ Q = Ev d 18 99 [l0, l1] [.int 48, .int s0, .ref s1] σ Q := ev_A1 d18_97 rfl
theorem d18_99 : decode (ab_C 18) 99 = .ok (.isub, 1) := by decide +kernel
theorem e18_99 {d : Nat} {l0 l1 : Option Value} {s0 : Int32} {s1 : Int32} {s2 : Nat} {σ : ab_St} {Q : Option Value → ab_St → Prop} : Ev d 18 99 [l0, l1] [.int s0, .int s1, .ref s2] σ Q = Ev d 18 100 [l0, l1] [.int (s1 - s0), .ref s2] σ Q := ev_A2 d18_99 rfl rfl
theorem d18_100 : decode (ab_C 18) 100 = .ok (.invokevirtual 86, 3) := by decide +kernel
theorem e18_100 {d : Nat} {l0 l1 : Option Value} {s0 : Int32} {s1 : Nat} {σ : ab_St} {Q : Option Value → ab_St → Prop} : Ev (d + 1) 18 100 [l0, l1] [.int s0, .ref s1] σ Q = (ab_k s1 = 2 ∧ Ev d 24 0 [some (.ref s1), some (.int s0)] [] σ (fun r σ2 => Ev (d + 1) 18 103 [l0, l1] (r.toList ++ []) σ2 Q)) := ev_KV (b := s1) (ls := [l0, l1]) (st := [.int s0, .ref s1]) (as := [.int s0]) (rest := []) d18_100 rfl rfl rfl (Nat.le_of_ble_eq_true rfl) (Nat.le_of_ble_eq_true rfl) (Nat.le_of_ble_eq_true rfl) rfl rfl rfl rfl rfl rfl rfl
theorem d18_103 : decode (ab_C 18) 103 = .ok (.ireturn, 1) := by decide +kernel
theorem e18_103 {d : Nat} {l0 l1 : Option Value} {s0 : Int32} {σ : ab_St} {Q : Option Value → ab_St → Prop} : Ev d 18 103 [l0, l1] [.int s0] σ Q = ((s0 = 0 ∨ s0 = 1) ∧ Q (some (.int s0)) σ) := ev_Z d18_103 rfl
theorem d18_104 : decode (ab_C 18) 104 = .ok (.aload_n 0, 1) := by decide +kernel
theorem e18_104 {d : Nat} {l1 : Option Value} {x : Nat} {σ : ab_St} {Q : Option Value → ab_St → Prop} : Ev d 18 104 [some (.ref x), l1] [] σ Q = Ev d 18 105 [some (.ref x), l1] [.ref x] σ Q := ev_A1 d18_104 rfl
theorem d18_105 : decode (ab_C 18) 105 = .ok (.iload_n 1, 1) := by decide +kernel
theorem e18_105 {d : Nat} {l0 : Option Value} {x : Int32} {s0 : Nat} {σ : ab_St} {Q : Option Value → ab_St → Prop} : Ev d 18 105 [l0, some (.int x)] [.ref s0] σ Q = Ev d 18 106 [l0, some (.int x)] [.int x, .ref s0] σ Q := ev_A1 d18_105 rfl
theorem d18_106 : decode (ab_C 18) 106 = .ok (.bipush 48, 2) := by decide +kernel
theorem e18_106 {d : Nat} {l0 l1 : Option Value} {s0 : Int32} {s1 : Nat} {σ : ab_St} {Q : Option Value → ab_St → Prop} : Ev d 18 106 [l0, l1] [.int s0, .ref s1] σ Q = Ev d 18 108 [l0, l1] [.int 48, .int s0, .ref s1] σ Q := ev_A1 d18_106 rfl
theorem d18_108 : decode (ab_C 18) 108 = .ok (.isub, 1) := by decide +kernel
theorem e18_108 {d : Nat} {l0 l1 : Option Value} {s0 : Int32} {s1 : Int32} {s2 : Nat} {σ : ab_St} {Q : Option Value → ab_St → Prop} : Ev d 18 108 [l0, l1] [.int s0, .int s1, .ref s2] σ Q = Ev d 18 109 [l0, l1] [.int (s1 - s0), .ref s2] σ Q := ev_A2 d18_108 rfl rfl
theorem d18_109 : decode (ab_C 18) 109 = .ok (.invokevirtual 89, 3) := by decide +kernel
theorem e18_109 {d : Nat} {l0 l1 : Option Value} {s0 : Int32} {s1 : Nat} {σ : ab_St} {Q : Option Value → ab_St → Prop} : Ev (d + 1) 18 109 [l0, l1] [.int s0, .ref s1] σ Q = (ab_k s1 = 2 ∧ Ev d 25 0 [some (.ref s1), some (.int s0)] [] σ (fun r σ2 => Ev (d + 1) 18 112 [l0, l1] (r.toList ++ []) σ2 Q)) := ev_KV (b := s1) (ls := [l0, l1]) (st := [.int s0, .ref s1]) (as := [.int s0]) (rest := []) d18_109 rfl rfl rfl (Nat.le_of_ble_eq_true rfl) (Nat.le_of_ble_eq_true rfl) (Nat.le_of_ble_eq_true rfl) rfl rfl rfl rfl rfl rfl rfl
theorem d18_112 : decode (ab_C 18) 112 = .ok (.ireturn, 1) := by decide +kernel
theorem e18_112 {d : Nat} {l0 l1 : Option Value} {s0 : Int32} {σ : ab_St} {Q : Option Value → ab_St → Prop} : Ev d 18 112 [l0, l1] [.int s0] σ Q = ((s0 = 0 ∨ s0 = 1) ∧ Q (some (.int s0)) σ) := ev_Z d18_112 rfl
theorem d18_113 : decode (ab_C 18) 113 = .ok (.aload_n 0, 1) := by decide +kernel
theorem e18_113 {d : Nat} {l1 : Option Value} {x : Nat} {σ : ab_St} {Q : Option Value → ab_St → Prop} : Ev d 18 113 [some (.ref x), l1] [] σ Q = Ev d 18 114 [some (.ref x), l1] [.ref x] σ Q := ev_A1 d18_113 rfl
theorem d18_114 : decode (ab_C 18) 114 = .ok (.iload_n 1, 1) := by decide +kernel
theorem e18_114 {d : Nat} {l0 : Option Value} {x : Int32} {s0 : Nat} {σ : ab_St} {Q : Option Value → ab_St → Prop} : Ev d 18 114 [l0, some (.int x)] [.ref s0] σ Q = Ev d 18 115 [l0, some (.int x)] [.int x, .ref s0] σ Q := ev_A1 d18_114 rfl
theorem d18_115 : decode (ab_C 18) 115 = .ok (.bipush 48, 2) := by decide +kernel
theorem e18_115 {d : Nat} {l0 l1 : Option Value} {s0 : Int32} {s1 : Nat} {σ : ab_St} {Q : Option Value → ab_St → Prop} : Ev d 18 115 [l0, l1] [.int s0, .ref s1] σ Q = Ev d 18 117 [l0, l1] [.int 48, .int s0, .ref s1] σ Q := ev_A1 d18_115 rfl
theorem d18_117 : decode (ab_C 18) 117 = .ok (.isub, 1) := by decide +kernel
theorem e18_117 {d : Nat} {l0 l1 : Option Value} {s0 : Int32} {s1 : Int32} {s2 : Nat} {σ : ab_St} {Q : Option Value → ab_St → Prop} : Ev d 18 117 [l0, l1] [.int s0, .int s1, .ref s2] σ Q = Ev d 18 118 [l0, l1] [.int (s1 - s0), .ref s2] σ Q := ev_A2 d18_117 rfl rfl
theorem d18_118 : decode (ab_C 18) 118 = .ok (.invokevirtual 92, 3) := by decide +kernel
theorem e18_118 {d : Nat} {l0 l1 : Option Value} {s0 : Int32} {s1 : Nat} {σ : ab_St} {Q : Option Value → ab_St → Prop} : Ev (d + 1) 18 118 [l0, l1] [.int s0, .ref s1] σ Q = (ab_k s1 = 2 ∧ Ev d 27 0 [some (.ref s1), some (.int s0)] [] σ (fun r σ2 => Ev (d + 1) 18 121 [l0, l1] (r.toList ++ []) σ2 Q)) := ev_KV (b := s1) (ls := [l0, l1]) (st := [.int s0, .ref s1]) (as := [.int s0]) (rest := []) d18_118 rfl rfl rfl (Nat.le_of_ble_eq_true rfl) (Nat.le_of_ble_eq_true rfl) (Nat.le_of_ble_eq_true rfl) rfl rfl rfl rfl rfl rfl rfl
theorem d18_121 : decode (ab_C 18) 121 = .ok (.ireturn, 1) := by decide +kernel
theorem e18_121 {d : Nat} {l0 l1 : Option Value} {s0 : Int32} {σ : ab_St} {Q : Option Value → ab_St → Prop} : Ev d 18 121 [l0, l1] [.int s0] σ Q = ((s0 = 0 ∨ s0 = 1) ∧ Q (some (.int s0)) σ) := ev_Z d18_121 rfl
theorem d18_122 : decode (ab_C 18) 122 = .ok (.aload_n 0, 1) := by decide +kernel
theorem e18_122 {d : Nat} {l1 : Option Value} {x : Nat} {σ : ab_St} {Q : Option Value → ab_St → Prop} : Ev d 18 122 [some (.ref x), l1] [] σ Q = Ev d 18 123 [some (.ref x), l1] [.ref x] σ Q := ev_A1 d18_122 rfl
theorem d18_123 : decode (ab_C 18) 123 = .ok (.iload_n 1, 1) := by decide +kernel
theorem e18_123 {d : Nat} {l0 : Option Value} {x : Int32} {s0 : Nat} {σ : ab_St} {Q : Option Value → ab_St → Prop} : Ev d 18 123 [l0, some (.int x)] [.ref s0] σ Q = Ev d 18 124 [l0, some (.int x)] [.int x, .ref s0] σ Q := ev_A1 d18_123 rfl
theorem d18_124 : decode (ab_C 18) 124 = .ok (.bipush 48, 2) := by decide +kernel
theorem e18_124 {d : Nat} {l0 l1 : Option Value} {s0 : Int32} {s1 : Nat} {σ : ab_St} {Q : Option Value → ab_St → Prop} : Ev d 18 124 [l0, l1] [.int s0, .ref s1] σ Q = Ev d 18 126 [l0, l1] [.int 48, .int s0, .ref s1] σ Q := ev_A1 d18_124 rfl
theorem d18_126 : decode (ab_C 18) 126 = .ok (.isub, 1) := by decide +kernel
theorem e18_126 {d : Nat} {l0 l1 : Option Value} {s0 : Int32} {s1 : Int32} {s2 : Nat} {σ : ab_St} {Q : Option Value → ab_St → Prop} : Ev d 18 126 [l0, l1] [.int s0, .int s1, .ref s2] σ Q = Ev d 18 127 [l0, l1] [.int (s1 - s0), .ref s2] σ Q := ev_A2 d18_126 rfl rfl
theorem d18_127 : decode (ab_C 18) 127 = .ok (.invokevirtual 95, 3) := by decide +kernel
theorem e18_127 {d : Nat} {l0 l1 : Option Value} {s0 : Int32} {s1 : Nat} {σ : ab_St} {Q : Option Value → ab_St → Prop} : Ev (d + 1) 18 127 [l0, l1] [.int s0, .ref s1] σ Q = (ab_k s1 = 2 ∧ Ev d 28 0 [some (.ref s1), some (.int s0)] [] σ (fun r σ2 => Ev (d + 1) 18 130 [l0, l1] (r.toList ++ []) σ2 Q)) := ev_KV (b := s1) (ls := [l0, l1]) (st := [.int s0, .ref s1]) (as := [.int s0]) (rest := []) d18_127 rfl rfl rfl (Nat.le_of_ble_eq_true rfl) (Nat.le_of_ble_eq_true rfl) (Nat.le_of_ble_eq_true rfl) rfl rfl rfl rfl rfl rfl rfl
theorem d18_130 : decode (ab_C 18) 130 = .ok (.ireturn, 1) := by decide +kernel
theorem e18_130 {d : Nat} {l0 l1 : Option Value} {s0 : Int32} {σ : ab_St} {Q : Option Value → ab_St → Prop} : Ev d 18 130 [l0, l1] [.int s0] σ Q = ((s0 = 0 ∨ s0 = 1) ∧ Q (some (.int s0)) σ) := ev_Z d18_130 rfl
theorem d18_131 : decode (ab_C 18) 131 = .ok (.iload_n 1, 1) := by decide +kernel
theorem e18_131 {d : Nat} {l0 : Option Value} {x : Int32} {σ : ab_St} {Q : Option Value → ab_St → Prop} : Ev d 18 131 [l0, some (.int x)] [] σ Q = Ev d 18 132 [l0, some (.int x)] [.int x] σ Q := ev_A1 d18_131 rfl
theorem d18_132 : decode (ab_C 18) 132 = .ok (.bipush 45, 2) := by decide +kernel
theorem e18_132 {d : Nat} {l0 l1 : Option Value} {s0 : Int32} {σ : ab_St} {Q : Option Value → ab_St → Prop} : Ev d 18 132 [l0, l1] [.int s0] σ Q = Ev d 18 134 [l0, l1] [.int 45, .int s0] σ Q := ev_A1 d18_132 rfl
theorem d18_134 : decode (ab_C 18) 134 = .ok (.if_icmp .ne 12, 3) := by decide +kernel
theorem e18_134 {d : Nat} {l0 l1 : Option Value} {s0 : Int32} {s1 : Int32} {σ : ab_St} {Q : Option Value → ab_St → Prop} : Ev d 18 134 [l0, l1] [.int s0, .int s1] σ Q = if s1 = s0 then Ev d 18 137 [l0, l1] [] σ Q else Ev d 18 146 [l0, l1] [] σ Q := ev_B (c := s1 = s0) d18_134 rfl rfl rfl rfl rfl
theorem d18_137 : decode (ab_C 18) 137 = .ok (.aload_n 0, 1) := by decide +kernel
theorem e18_137 {d : Nat} {l1 : Option Value} {x : Nat} {σ : ab_St} {Q : Option Value → ab_St → Prop} : Ev d 18 137 [some (.ref x), l1] [] σ Q = Ev d 18 138 [some (.ref x), l1] [.ref x] σ Q := ev_A1 d18_137 rfl
theorem d18_138 : decode (ab_C 18) 138 = .ok (.bipush (-9), 2) := by decide +kernel
theorem e18_138 {d : Nat} {l0 l1 : Option Value} {s0 : Nat} {σ : ab_St} {Q : Option Value → ab_St → Prop} : Ev d 18 138 [l0, l1] [.ref s0] σ Q = Ev d 18 140 [l0, l1] [.int (-9), .ref s0] σ Q := ev_A1 d18_138 rfl
theorem d18_140 : decode (ab_C 18) 140 = .ok (.invokevirtual 98, 3) := by decide +kernel
theorem e18_140 {d : Nat} {l0 l1 : Option Value} {s0 : Int32} {s1 : Nat} {σ : ab_St} {Q : Option Value → ab_St → Prop} : Ev (d + 1) 18 140 [l0, l1] [.int s0, .ref s1] σ Q = (ab_k s1 = 2 ∧ Ev d 29 0 [some (.ref s1), some (.int s0)] [] σ (fun r σ2 => Ev (d + 1) 18 143 [l0, l1] (r.toList ++ []) σ2 Q)) := ev_KV (b := s1) (ls := [l0, l1]) (st := [.int s0, .ref s1]) (as := [.int s0]) (rest := []) d18_140 rfl rfl rfl (Nat.le_of_ble_eq_true rfl) (Nat.le_of_ble_eq_true rfl) (Nat.le_of_ble_eq_true rfl) rfl rfl rfl rfl rfl rfl rfl
theorem d18_143 : decode (ab_C 18) 143 = .ok (.goto 11, 3) := by decide +kernel
theorem e18_143 {d : Nat} {l0 l1 : Option Value} {s0 : Int32} {σ : ab_St} {Q : Option Value → ab_St → Prop} : Ev d 18 143 [l0, l1] [.int s0] σ Q = Ev d 18 154 [l0, l1] [.int s0] σ Q := ev_J d18_143 rfl rfl rfl rfl rfl
theorem d18_146 : decode (ab_C 18) 146 = .ok (.aload_n 0, 1) := by decide +kernel
theorem e18_146 {d : Nat} {l1 : Option Value} {x : Nat} {σ : ab_St} {Q : Option Value → ab_St → Prop} : Ev d 18 146 [some (.ref x), l1] [] σ Q = Ev d 18 147 [some (.ref x), l1] [.ref x] σ Q := ev_A1 d18_146 rfl
theorem d18_147 : decode (ab_C 18) 147 = .ok (.iload_n 1, 1) := by decide +kernel
theorem e18_147 {d : Nat} {l0 : Option Value} {x : Int32} {s0 : Nat} {σ : ab_St} {Q : Option Value → ab_St → Prop} : Ev d 18 147 [l0, some (.int x)] [.ref s0] σ Q = Ev d 18 148 [l0, some (.int x)] [.int x, .ref s0] σ Q := ev_A1 d18_147 rfl
theorem d18_148 : decode (ab_C 18) 148 = .ok (.bipush 48, 2) := by decide +kernel
theorem e18_148 {d : Nat} {l0 l1 : Option Value} {s0 : Int32} {s1 : Nat} {σ : ab_St} {Q : Option Value → ab_St → Prop} : Ev d 18 148 [l0, l1] [.int s0, .ref s1] σ Q = Ev d 18 150 [l0, l1] [.int 48, .int s0, .ref s1] σ Q := ev_A1 d18_148 rfl
theorem d18_150 : decode (ab_C 18) 150 = .ok (.isub, 1) := by decide +kernel
theorem e18_150 {d : Nat} {l0 l1 : Option Value} {s0 : Int32} {s1 : Int32} {s2 : Nat} {σ : ab_St} {Q : Option Value → ab_St → Prop} : Ev d 18 150 [l0, l1] [.int s0, .int s1, .ref s2] σ Q = Ev d 18 151 [l0, l1] [.int (s1 - s0), .ref s2] σ Q := ev_A2 d18_150 rfl rfl
theorem d18_151 : decode (ab_C 18) 151 = .ok (.invokevirtual 101, 3) := by decide +kernel
theorem e18_151 {d : Nat} {l0 l1 : Option Value} {s0 : Int32} {s1 : Nat} {σ : ab_St} {Q : Option Value → ab_St → Prop} : Ev (d + 1) 18 151 [l0, l1] [.int s0, .ref s1] σ Q = (ab_k s1 = 2 ∧ Ev d 30 0 [some (.ref s1), some (.int s0)] [] σ (fun r σ2 => Ev (d + 1) 18 154 [l0, l1] (r.toList ++ []) σ2 Q)) := ev_KV (b := s1) (ls := [l0, l1]) (st := [.int s0, .ref s1]) (as := [.int s0]) (rest := []) d18_151 rfl rfl rfl (Nat.le_of_ble_eq_true rfl) (Nat.le_of_ble_eq_true rfl) (Nat.le_of_ble_eq_true rfl) rfl rfl rfl rfl rfl rfl rfl
theorem d18_154 : decode (ab_C 18) 154 = .ok (.ireturn, 1) := by decide +kernel
theorem e18_154 {d : Nat} {l0 l1 : Option Value} {s0 : Int32} {σ : ab_St} {Q : Option Value → ab_St → Prop} : Ev d 18 154 [l0, l1] [.int s0] σ Q = ((s0 = 0 ∨ s0 = 1) ∧ Q (some (.int s0)) σ) := ev_Z d18_154 rfl
/-! SaidLeast$Reader.takesStart(I)Z -/
theorem d19_0 : decode (ab_C 19) 0 = .ok (.aload_n 0, 1) := by decide +kernel
theorem e19_0 {d : Nat} {l1 : Option Value} {x : Nat} {σ : ab_St} {Q : Option Value → ab_St → Prop} : Ev d 19 0 [some (.ref x), l1] [] σ Q = Ev d 19 1 [some (.ref x), l1] [.ref x] σ Q := ev_A1 d19_0 rfl
theorem d19_1 : decode (ab_C 19) 1 = .ok (.iconst 1, 1) := by decide +kernel
theorem e19_1 {d : Nat} {l0 l1 : Option Value} {s0 : Nat} {σ : ab_St} {Q : Option Value → ab_St → Prop} : Ev d 19 1 [l0, l1] [.ref s0] σ Q = Ev d 19 2 [l0, l1] [.int 1, .ref s0] σ Q := ev_A1 d19_1 rfl
theorem d19_2 : decode (ab_C 19) 2 = .ok (.putfield 42, 3) := by decide +kernel
theorem e19_2 {d : Nat} {l0 l1 : Option Value} {s0 : Int32} {s1 : Nat} {σ : ab_St} {Q : Option Value → ab_St → Prop} : Ev d 19 2 [l0, l1] [.int s0, .ref s1] σ Q = (ab_k s1 = 2 ∧ Ev d 19 5 [l0, l1] [] (ab_wI σ s1 (upd (σ.1 s1) 2 s0)) Q) := ev_Hc (c := ab_k s1 = 2) d19_2 rfl rfl rfl rfl rfl rfl rfl rfl
theorem d19_5 : decode (ab_C 19) 5 = .ok (.iload_n 1, 1) := by decide +kernel
theorem e19_5 {d : Nat} {l0 : Option Value} {x : Int32} {σ : ab_St} {Q : Option Value → ab_St → Prop} : Ev d 19 5 [l0, some (.int x)] [] σ Q = Ev d 19 6 [l0, some (.int x)] [.int x] σ Q := ev_A1 d19_5 rfl
theorem d19_6 : decode (ab_C 19) 6 = .ok (.bipush 81, 2) := by decide +kernel
theorem e19_6 {d : Nat} {l0 l1 : Option Value} {s0 : Int32} {σ : ab_St} {Q : Option Value → ab_St → Prop} : Ev d 19 6 [l0, l1] [.int s0] σ Q = Ev d 19 8 [l0, l1] [.int 81, .int s0] σ Q := ev_A1 d19_6 rfl
theorem d19_8 : decode (ab_C 19) 8 = .ok (.if_icmp .ne 7, 3) := by decide +kernel
theorem e19_8 {d : Nat} {l0 l1 : Option Value} {s0 : Int32} {s1 : Int32} {σ : ab_St} {Q : Option Value → ab_St → Prop} : Ev d 19 8 [l0, l1] [.int s0, .int s1] σ Q = if s1 = s0 then Ev d 19 11 [l0, l1] [] σ Q else Ev d 19 15 [l0, l1] [] σ Q := ev_B (c := s1 = s0) d19_8 rfl rfl rfl rfl rfl
theorem d19_11 : decode (ab_C 19) 11 = .ok (.iconst 1, 1) := by decide +kernel
theorem e19_11 {d : Nat} {l0 l1 : Option Value} {σ : ab_St} {Q : Option Value → ab_St → Prop} : Ev d 19 11 [l0, l1] [] σ Q = Ev d 19 12 [l0, l1] [.int 1] σ Q := ev_A1 d19_11 rfl
theorem d19_12 : decode (ab_C 19) 12 = .ok (.goto 4, 3) := by decide +kernel
theorem e19_12 {d : Nat} {l0 l1 : Option Value} {s0 : Int32} {σ : ab_St} {Q : Option Value → ab_St → Prop} : Ev d 19 12 [l0, l1] [.int s0] σ Q = Ev d 19 16 [l0, l1] [.int s0] σ Q := ev_J d19_12 rfl rfl rfl rfl rfl
theorem d19_15 : decode (ab_C 19) 15 = .ok (.iconst 0, 1) := by decide +kernel
theorem e19_15 {d : Nat} {l0 l1 : Option Value} {σ : ab_St} {Q : Option Value → ab_St → Prop} : Ev d 19 15 [l0, l1] [] σ Q = Ev d 19 16 [l0, l1] [.int 0] σ Q := ev_A1 d19_15 rfl
theorem d19_16 : decode (ab_C 19) 16 = .ok (.ireturn, 1) := by decide +kernel
theorem e19_16 {d : Nat} {l0 l1 : Option Value} {s0 : Int32} {σ : ab_St} {Q : Option Value → ab_St → Prop} : Ev d 19 16 [l0, l1] [.int s0] σ Q = ((s0 = 0 ∨ s0 = 1) ∧ Q (some (.int s0)) σ) := ev_Z d19_16 rfl
/-! SaidLeast$Reader.takesLaw(I)Z -/
theorem d20_0 : decode (ab_C 20) 0 = .ok (.iload_n 1, 1) := by decide +kernel
theorem e20_0 {d : Nat} {l0 : Option Value} {x : Int32} {σ : ab_St} {Q : Option Value → ab_St → Prop} : Ev d 20 0 [l0, some (.int x)] [] σ Q = Ev d 20 1 [l0, some (.int x)] [.int x] σ Q := ev_A1 d20_0 rfl
theorem d20_1 : decode (ab_C 20) 1 = .ok (.ifCond .lt 8, 3) := by decide +kernel
theorem e20_1 {d : Nat} {l0 l1 : Option Value} {s0 : Int32} {σ : ab_St} {Q : Option Value → ab_St → Prop} : Ev d 20 1 [l0, l1] [.int s0] σ Q = if s0 < 0 then Ev d 20 9 [l0, l1] [] σ Q else Ev d 20 4 [l0, l1] [] σ Q := ev_B (c := s0 < 0) d20_1 rfl rfl rfl rfl rfl
theorem d20_4 : decode (ab_C 20) 4 = .ok (.iload_n 1, 1) := by decide +kernel
theorem e20_4 {d : Nat} {l0 : Option Value} {x : Int32} {σ : ab_St} {Q : Option Value → ab_St → Prop} : Ev d 20 4 [l0, some (.int x)] [] σ Q = Ev d 20 5 [l0, some (.int x)] [.int x] σ Q := ev_A1 d20_4 rfl
theorem d20_5 : decode (ab_C 20) 5 = .ok (.iconst 3, 1) := by decide +kernel
theorem e20_5 {d : Nat} {l0 l1 : Option Value} {s0 : Int32} {σ : ab_St} {Q : Option Value → ab_St → Prop} : Ev d 20 5 [l0, l1] [.int s0] σ Q = Ev d 20 6 [l0, l1] [.int 3, .int s0] σ Q := ev_A1 d20_5 rfl
theorem d20_6 : decode (ab_C 20) 6 = .ok (.if_icmp .lt 5, 3) := by decide +kernel
theorem e20_6 {d : Nat} {l0 l1 : Option Value} {s0 : Int32} {s1 : Int32} {σ : ab_St} {Q : Option Value → ab_St → Prop} : Ev d 20 6 [l0, l1] [.int s0, .int s1] σ Q = if s1 < s0 then Ev d 20 11 [l0, l1] [] σ Q else Ev d 20 9 [l0, l1] [] σ Q := ev_B (c := s1 < s0) d20_6 rfl rfl rfl rfl rfl
theorem d20_9 : decode (ab_C 20) 9 = .ok (.iconst 0, 1) := by decide +kernel
theorem e20_9 {d : Nat} {l0 l1 : Option Value} {σ : ab_St} {Q : Option Value → ab_St → Prop} : Ev d 20 9 [l0, l1] [] σ Q = Ev d 20 10 [l0, l1] [.int 0] σ Q := ev_A1 d20_9 rfl
theorem d20_10 : decode (ab_C 20) 10 = .ok (.ireturn, 1) := by decide +kernel
theorem e20_10 {d : Nat} {l0 l1 : Option Value} {s0 : Int32} {σ : ab_St} {Q : Option Value → ab_St → Prop} : Ev d 20 10 [l0, l1] [.int s0] σ Q = ((s0 = 0 ∨ s0 = 1) ∧ Q (some (.int s0)) σ) := ev_Z d20_10 rfl
theorem d20_11 : decode (ab_C 20) 11 = .ok (.aload_n 0, 1) := by decide +kernel
theorem e20_11 {d : Nat} {l1 : Option Value} {x : Nat} {σ : ab_St} {Q : Option Value → ab_St → Prop} : Ev d 20 11 [some (.ref x), l1] [] σ Q = Ev d 20 12 [some (.ref x), l1] [.ref x] σ Q := ev_A1 d20_11 rfl
theorem d20_12 : decode (ab_C 20) 12 = .ok (.getfield 21, 3) := by decide +kernel
theorem e20_12 {d : Nat} {l0 l1 : Option Value} {s0 : Nat} {σ : ab_St} {Q : Option Value → ab_St → Prop} : Ev d 20 12 [l0, l1] [.ref s0] σ Q = (ab_k s0 = 2 ∧ Ev d 20 15 [l0, l1] [.ref (ab_r s0 1)] σ Q) := ev_Hc (c := ab_k s0 = 2) d20_12 rfl rfl rfl rfl rfl rfl rfl rfl
theorem d20_15 : decode (ab_C 20) 15 = .ok (.iload_n 1, 1) := by decide +kernel
theorem e20_15 {d : Nat} {l0 : Option Value} {x : Int32} {s0 : Nat} {σ : ab_St} {Q : Option Value → ab_St → Prop} : Ev d 20 15 [l0, some (.int x)] [.ref s0] σ Q = Ev d 20 16 [l0, some (.int x)] [.int x, .ref s0] σ Q := ev_A1 d20_15 rfl
theorem d20_16 : decode (ab_C 20) 16 = .ok (.putfield 64, 3) := by decide +kernel
theorem e20_16 {d : Nat} {l0 l1 : Option Value} {s0 : Int32} {s1 : Nat} {σ : ab_St} {Q : Option Value → ab_St → Prop} : Ev d 20 16 [l0, l1] [.int s0, .ref s1] σ Q = (ab_k s1 = 4 ∧ Ev d 20 19 [l0, l1] [] (ab_wI σ s1 (upd (σ.1 s1) 4 s0)) Q) := ev_Hc (c := ab_k s1 = 4) d20_16 rfl rfl rfl rfl rfl rfl rfl rfl
theorem d20_19 : decode (ab_C 20) 19 = .ok (.aload_n 0, 1) := by decide +kernel
theorem e20_19 {d : Nat} {l1 : Option Value} {x : Nat} {σ : ab_St} {Q : Option Value → ab_St → Prop} : Ev d 20 19 [some (.ref x), l1] [] σ Q = Ev d 20 20 [some (.ref x), l1] [.ref x] σ Q := ev_A1 d20_19 rfl
theorem d20_20 : decode (ab_C 20) 20 = .ok (.iconst 2, 1) := by decide +kernel
theorem e20_20 {d : Nat} {l0 l1 : Option Value} {s0 : Nat} {σ : ab_St} {Q : Option Value → ab_St → Prop} : Ev d 20 20 [l0, l1] [.ref s0] σ Q = Ev d 20 21 [l0, l1] [.int 2, .ref s0] σ Q := ev_A1 d20_20 rfl
theorem d20_21 : decode (ab_C 20) 21 = .ok (.putfield 42, 3) := by decide +kernel
theorem e20_21 {d : Nat} {l0 l1 : Option Value} {s0 : Int32} {s1 : Nat} {σ : ab_St} {Q : Option Value → ab_St → Prop} : Ev d 20 21 [l0, l1] [.int s0, .ref s1] σ Q = (ab_k s1 = 2 ∧ Ev d 20 24 [l0, l1] [] (ab_wI σ s1 (upd (σ.1 s1) 2 s0)) Q) := ev_Hc (c := ab_k s1 = 2) d20_21 rfl rfl rfl rfl rfl rfl rfl rfl
theorem d20_24 : decode (ab_C 20) 24 = .ok (.iconst 1, 1) := by decide +kernel
theorem e20_24 {d : Nat} {l0 l1 : Option Value} {σ : ab_St} {Q : Option Value → ab_St → Prop} : Ev d 20 24 [l0, l1] [] σ Q = Ev d 20 25 [l0, l1] [.int 1] σ Q := ev_A1 d20_24 rfl
theorem d20_25 : decode (ab_C 20) 25 = .ok (.ireturn, 1) := by decide +kernel
theorem e20_25 {d : Nat} {l0 l1 : Option Value} {s0 : Int32} {σ : ab_St} {Q : Option Value → ab_St → Prop} : Ev d 20 25 [l0, l1] [.int s0] σ Q = ((s0 = 0 ∨ s0 = 1) ∧ Q (some (.int s0)) σ) := ev_Z d20_25 rfl
/-! SaidLeast$Reader.opensSaying()Z -/
theorem d21_0 : decode (ab_C 21) 0 = .ok (.aload_n 0, 1) := by decide +kernel
theorem e21_0 {d : Nat} {x : Nat} {σ : ab_St} {Q : Option Value → ab_St → Prop} : Ev d 21 0 [some (.ref x)] [] σ Q = Ev d 21 1 [some (.ref x)] [.ref x] σ Q := ev_A1 d21_0 rfl
theorem d21_1 : decode (ab_C 21) 1 = .ok (.getfield 12, 3) := by decide +kernel
theorem e21_1 {d : Nat} {l0 : Option Value} {s0 : Nat} {σ : ab_St} {Q : Option Value → ab_St → Prop} : Ev d 21 1 [l0] [.ref s0] σ Q = (ab_k s0 = 2 ∧ Ev d 21 4 [l0] [.ref (ab_r s0 0)] σ Q) := ev_Hc (c := ab_k s0 = 2) d21_1 rfl rfl rfl rfl rfl rfl rfl rfl
theorem d21_4 : decode (ab_C 21) 4 = .ok (.getfield 48, 3) := by decide +kernel
theorem e21_4 {d : Nat} {l0 : Option Value} {s0 : Nat} {σ : ab_St} {Q : Option Value → ab_St → Prop} : Ev d 21 4 [l0] [.ref s0] σ Q = (ab_k s0 = 3 ∧ Ev d 21 7 [l0] [.int (σ.1 s0 5)] σ Q) := ev_Hc (c := ab_k s0 = 3) d21_4 rfl rfl rfl rfl rfl rfl rfl rfl
theorem d21_7 : decode (ab_C 21) 7 = .ok (.bipush 8, 2) := by decide +kernel
theorem e21_7 {d : Nat} {l0 : Option Value} {s0 : Int32} {σ : ab_St} {Q : Option Value → ab_St → Prop} : Ev d 21 7 [l0] [.int s0] σ Q = Ev d 21 9 [l0] [.int 8, .int s0] σ Q := ev_A1 d21_7 rfl
theorem d21_9 : decode (ab_C 21) 9 = .ok (.if_icmp .ge 13, 3) := by decide +kernel
theorem e21_9 {d : Nat} {l0 : Option Value} {s0 : Int32} {s1 : Int32} {σ : ab_St} {Q : Option Value → ab_St → Prop} : Ev d 21 9 [l0] [.int s0, .int s1] σ Q = if s0 ≤ s1 then Ev d 21 22 [l0] [] σ Q else Ev d 21 12 [l0] [] σ Q := ev_B (c := s0 ≤ s1) d21_9 rfl rfl rfl rfl rfl
theorem d21_12 : decode (ab_C 21) 12 = .ok (.aload_n 0, 1) := by decide +kernel
theorem e21_12 {d : Nat} {x : Nat} {σ : ab_St} {Q : Option Value → ab_St → Prop} : Ev d 21 12 [some (.ref x)] [] σ Q = Ev d 21 13 [some (.ref x)] [.ref x] σ Q := ev_A1 d21_12 rfl
theorem d21_13 : decode (ab_C 21) 13 = .ok (.getfield 12, 3) := by decide +kernel
theorem e21_13 {d : Nat} {l0 : Option Value} {s0 : Nat} {σ : ab_St} {Q : Option Value → ab_St → Prop} : Ev d 21 13 [l0] [.ref s0] σ Q = (ab_k s0 = 2 ∧ Ev d 21 16 [l0] [.ref (ab_r s0 0)] σ Q) := ev_Hc (c := ab_k s0 = 2) d21_13 rfl rfl rfl rfl rfl rfl rfl rfl
theorem d21_16 : decode (ab_C 21) 16 = .ok (.getfield 45, 3) := by decide +kernel
theorem e21_16 {d : Nat} {l0 : Option Value} {s0 : Nat} {σ : ab_St} {Q : Option Value → ab_St → Prop} : Ev d 21 16 [l0] [.ref s0] σ Q = (ab_k s0 = 3 ∧ Ev d 21 19 [l0] [.int (σ.1 s0 4)] σ Q) := ev_Hc (c := ab_k s0 = 3) d21_16 rfl rfl rfl rfl rfl rfl rfl rfl
theorem d21_19 : decode (ab_C 21) 19 = .ok (.ifCond .ne 5, 3) := by decide +kernel
theorem e21_19 {d : Nat} {l0 : Option Value} {s0 : Int32} {σ : ab_St} {Q : Option Value → ab_St → Prop} : Ev d 21 19 [l0] [.int s0] σ Q = if s0 = 0 then Ev d 21 22 [l0] [] σ Q else Ev d 21 24 [l0] [] σ Q := ev_B (c := s0 = 0) d21_19 rfl rfl rfl rfl rfl
theorem d21_22 : decode (ab_C 21) 22 = .ok (.iconst 0, 1) := by decide +kernel
theorem e21_22 {d : Nat} {l0 : Option Value} {σ : ab_St} {Q : Option Value → ab_St → Prop} : Ev d 21 22 [l0] [] σ Q = Ev d 21 23 [l0] [.int 0] σ Q := ev_A1 d21_22 rfl
theorem d21_23 : decode (ab_C 21) 23 = .ok (.ireturn, 1) := by decide +kernel
theorem e21_23 {d : Nat} {l0 : Option Value} {s0 : Int32} {σ : ab_St} {Q : Option Value → ab_St → Prop} : Ev d 21 23 [l0] [.int s0] σ Q = ((s0 = 0 ∨ s0 = 1) ∧ Q (some (.int s0)) σ) := ev_Z d21_23 rfl
theorem d21_24 : decode (ab_C 21) 24 = .ok (.aload_n 0, 1) := by decide +kernel
theorem e21_24 {d : Nat} {x : Nat} {σ : ab_St} {Q : Option Value → ab_St → Prop} : Ev d 21 24 [some (.ref x)] [] σ Q = Ev d 21 25 [some (.ref x)] [.ref x] σ Q := ev_A1 d21_24 rfl
theorem d21_25 : decode (ab_C 21) 25 = .ok (.iconst 5, 1) := by decide +kernel
theorem e21_25 {d : Nat} {l0 : Option Value} {s0 : Nat} {σ : ab_St} {Q : Option Value → ab_St → Prop} : Ev d 21 25 [l0] [.ref s0] σ Q = Ev d 21 26 [l0] [.int 5, .ref s0] σ Q := ev_A1 d21_25 rfl
theorem d21_26 : decode (ab_C 21) 26 = .ok (.putfield 42, 3) := by decide +kernel
theorem e21_26 {d : Nat} {l0 : Option Value} {s0 : Int32} {s1 : Nat} {σ : ab_St} {Q : Option Value → ab_St → Prop} : Ev d 21 26 [l0] [.int s0, .ref s1] σ Q = (ab_k s1 = 2 ∧ Ev d 21 29 [l0] [] (ab_wI σ s1 (upd (σ.1 s1) 2 s0)) Q) := ev_Hc (c := ab_k s1 = 2) d21_26 rfl rfl rfl rfl rfl rfl rfl rfl
theorem d21_29 : decode (ab_C 21) 29 = .ok (.iconst 1, 1) := by decide +kernel
theorem e21_29 {d : Nat} {l0 : Option Value} {σ : ab_St} {Q : Option Value → ab_St → Prop} : Ev d 21 29 [l0] [] σ Q = Ev d 21 30 [l0] [.int 1] σ Q := ev_A1 d21_29 rfl
theorem d21_30 : decode (ab_C 21) 30 = .ok (.ireturn, 1) := by decide +kernel
theorem e21_30 {d : Nat} {l0 : Option Value} {s0 : Int32} {σ : ab_St} {Q : Option Value → ab_St → Prop} : Ev d 21 30 [l0] [.int s0] σ Q = ((s0 = 0 ∨ s0 = 1) ∧ Q (some (.int s0)) σ) := ev_Z d21_30 rfl
/-! SaidLeast$Reader.opensPerson(I)Z -/
theorem d22_0 : decode (ab_C 22) 0 = .ok (.aload_n 0, 1) := by decide +kernel
theorem e22_0 {d : Nat} {l1 : Option Value} {x : Nat} {σ : ab_St} {Q : Option Value → ab_St → Prop} : Ev d 22 0 [some (.ref x), l1] [] σ Q = Ev d 22 1 [some (.ref x), l1] [.ref x] σ Q := ev_A1 d22_0 rfl
theorem d22_1 : decode (ab_C 22) 1 = .ok (.getfield 12, 3) := by decide +kernel
theorem e22_1 {d : Nat} {l0 l1 : Option Value} {s0 : Nat} {σ : ab_St} {Q : Option Value → ab_St → Prop} : Ev d 22 1 [l0, l1] [.ref s0] σ Q = (ab_k s0 = 2 ∧ Ev d 22 4 [l0, l1] [.ref (ab_r s0 0)] σ Q) := ev_Hc (c := ab_k s0 = 2) d22_1 rfl rfl rfl rfl rfl rfl rfl rfl
theorem d22_4 : decode (ab_C 22) 4 = .ok (.getfield 45, 3) := by decide +kernel
theorem e22_4 {d : Nat} {l0 l1 : Option Value} {s0 : Nat} {σ : ab_St} {Q : Option Value → ab_St → Prop} : Ev d 22 4 [l0, l1] [.ref s0] σ Q = (ab_k s0 = 3 ∧ Ev d 22 7 [l0, l1] [.int (σ.1 s0 4)] σ Q) := ev_Hc (c := ab_k s0 = 3) d22_4 rfl rfl rfl rfl rfl rfl rfl rfl
theorem d22_7 : decode (ab_C 22) 7 = .ok (.bipush 6, 2) := by decide +kernel
theorem e22_7 {d : Nat} {l0 l1 : Option Value} {s0 : Int32} {σ : ab_St} {Q : Option Value → ab_St → Prop} : Ev d 22 7 [l0, l1] [.int s0] σ Q = Ev d 22 9 [l0, l1] [.int 6, .int s0] σ Q := ev_A1 d22_7 rfl
theorem d22_9 : decode (ab_C 22) 9 = .ok (.if_icmp .ge 15, 3) := by decide +kernel
theorem e22_9 {d : Nat} {l0 l1 : Option Value} {s0 : Int32} {s1 : Int32} {σ : ab_St} {Q : Option Value → ab_St → Prop} : Ev d 22 9 [l0, l1] [.int s0, .int s1] σ Q = if s0 ≤ s1 then Ev d 22 24 [l0, l1] [] σ Q else Ev d 22 12 [l0, l1] [] σ Q := ev_B (c := s0 ≤ s1) d22_9 rfl rfl rfl rfl rfl
theorem d22_12 : decode (ab_C 22) 12 = .ok (.iload_n 1, 1) := by decide +kernel
theorem e22_12 {d : Nat} {l0 : Option Value} {x : Int32} {σ : ab_St} {Q : Option Value → ab_St → Prop} : Ev d 22 12 [l0, some (.int x)] [] σ Q = Ev d 22 13 [l0, some (.int x)] [.int x] σ Q := ev_A1 d22_12 rfl
theorem d22_13 : decode (ab_C 22) 13 = .ok (.bipush 80, 2) := by decide +kernel
theorem e22_13 {d : Nat} {l0 l1 : Option Value} {s0 : Int32} {σ : ab_St} {Q : Option Value → ab_St → Prop} : Ev d 22 13 [l0, l1] [.int s0] σ Q = Ev d 22 15 [l0, l1] [.int 80, .int s0] σ Q := ev_A1 d22_13 rfl
theorem d22_15 : decode (ab_C 22) 15 = .ok (.if_icmp .eq 11, 3) := by decide +kernel
theorem e22_15 {d : Nat} {l0 l1 : Option Value} {s0 : Int32} {s1 : Int32} {σ : ab_St} {Q : Option Value → ab_St → Prop} : Ev d 22 15 [l0, l1] [.int s0, .int s1] σ Q = if s1 = s0 then Ev d 22 26 [l0, l1] [] σ Q else Ev d 22 18 [l0, l1] [] σ Q := ev_B (c := s1 = s0) d22_15 rfl rfl rfl rfl rfl
theorem d22_18 : decode (ab_C 22) 18 = .ok (.iload_n 1, 1) := by decide +kernel
theorem e22_18 {d : Nat} {l0 : Option Value} {x : Int32} {σ : ab_St} {Q : Option Value → ab_St → Prop} : Ev d 22 18 [l0, some (.int x)] [] σ Q = Ev d 22 19 [l0, some (.int x)] [.int x] σ Q := ev_A1 d22_18 rfl
theorem d22_19 : decode (ab_C 22) 19 = .ok (.bipush 65, 2) := by decide +kernel
theorem e22_19 {d : Nat} {l0 l1 : Option Value} {s0 : Int32} {σ : ab_St} {Q : Option Value → ab_St → Prop} : Ev d 22 19 [l0, l1] [.int s0] σ Q = Ev d 22 21 [l0, l1] [.int 65, .int s0] σ Q := ev_A1 d22_19 rfl
theorem d22_21 : decode (ab_C 22) 21 = .ok (.if_icmp .eq 5, 3) := by decide +kernel
theorem e22_21 {d : Nat} {l0 l1 : Option Value} {s0 : Int32} {s1 : Int32} {σ : ab_St} {Q : Option Value → ab_St → Prop} : Ev d 22 21 [l0, l1] [.int s0, .int s1] σ Q = if s1 = s0 then Ev d 22 26 [l0, l1] [] σ Q else Ev d 22 24 [l0, l1] [] σ Q := ev_B (c := s1 = s0) d22_21 rfl rfl rfl rfl rfl
theorem d22_24 : decode (ab_C 22) 24 = .ok (.iconst 0, 1) := by decide +kernel
theorem e22_24 {d : Nat} {l0 l1 : Option Value} {σ : ab_St} {Q : Option Value → ab_St → Prop} : Ev d 22 24 [l0, l1] [] σ Q = Ev d 22 25 [l0, l1] [.int 0] σ Q := ev_A1 d22_24 rfl
theorem d22_25 : decode (ab_C 22) 25 = .ok (.ireturn, 1) := by decide +kernel
theorem e22_25 {d : Nat} {l0 l1 : Option Value} {s0 : Int32} {σ : ab_St} {Q : Option Value → ab_St → Prop} : Ev d 22 25 [l0, l1] [.int s0] σ Q = ((s0 = 0 ∨ s0 = 1) ∧ Q (some (.int s0)) σ) := ev_Z d22_25 rfl
theorem d22_26 : decode (ab_C 22) 26 = .ok (.iload_n 1, 1) := by decide +kernel
theorem e22_26 {d : Nat} {l0 : Option Value} {x : Int32} {σ : ab_St} {Q : Option Value → ab_St → Prop} : Ev d 22 26 [l0, some (.int x)] [] σ Q = Ev d 22 27 [l0, some (.int x)] [.int x] σ Q := ev_A1 d22_26 rfl
theorem d22_27 : decode (ab_C 22) 27 = .ok (.bipush 80, 2) := by decide +kernel
theorem e22_27 {d : Nat} {l0 l1 : Option Value} {s0 : Int32} {σ : ab_St} {Q : Option Value → ab_St → Prop} : Ev d 22 27 [l0, l1] [.int s0] σ Q = Ev d 22 29 [l0, l1] [.int 80, .int s0] σ Q := ev_A1 d22_27 rfl
theorem d22_29 : decode (ab_C 22) 29 = .ok (.if_icmp .ne 24, 3) := by decide +kernel
theorem e22_29 {d : Nat} {l0 l1 : Option Value} {s0 : Int32} {s1 : Int32} {σ : ab_St} {Q : Option Value → ab_St → Prop} : Ev d 22 29 [l0, l1] [.int s0, .int s1] σ Q = if s1 = s0 then Ev d 22 32 [l0, l1] [] σ Q else Ev d 22 53 [l0, l1] [] σ Q := ev_B (c := s1 = s0) d22_29 rfl rfl rfl rfl rfl
theorem d22_32 : decode (ab_C 22) 32 = .ok (.aload_n 0, 1) := by decide +kernel
theorem e22_32 {d : Nat} {l1 : Option Value} {x : Nat} {σ : ab_St} {Q : Option Value → ab_St → Prop} : Ev d 22 32 [some (.ref x), l1] [] σ Q = Ev d 22 33 [some (.ref x), l1] [.ref x] σ Q := ev_A1 d22_32 rfl
theorem d22_33 : decode (ab_C 22) 33 = .ok (.getfield 21, 3) := by decide +kernel
theorem e22_33 {d : Nat} {l0 l1 : Option Value} {s0 : Nat} {σ : ab_St} {Q : Option Value → ab_St → Prop} : Ev d 22 33 [l0, l1] [.ref s0] σ Q = (ab_k s0 = 2 ∧ Ev d 22 36 [l0, l1] [.ref (ab_r s0 1)] σ Q) := ev_Hc (c := ab_k s0 = 2) d22_33 rfl rfl rfl rfl rfl rfl rfl rfl
theorem d22_36 : decode (ab_C 22) 36 = .ok (.dup, 1) := by decide +kernel
theorem e22_36 {d : Nat} {l0 l1 : Option Value} {s0 : Nat} {σ : ab_St} {Q : Option Value → ab_St → Prop} : Ev d 22 36 [l0, l1] [.ref s0] σ Q = Ev d 22 37 [l0, l1] [.ref s0, .ref s0] σ Q := ev_A1 d22_36 rfl
theorem d22_37 : decode (ab_C 22) 37 = .ok (.getfield 61, 3) := by decide +kernel
theorem e22_37 {d : Nat} {l0 l1 : Option Value} {s0 : Nat} {s1 : Nat} {σ : ab_St} {Q : Option Value → ab_St → Prop} : Ev d 22 37 [l0, l1] [.ref s0, .ref s1] σ Q = (ab_k s0 = 4 ∧ Ev d 22 40 [l0, l1] [.int (σ.1 s0 1), .ref s1] σ Q) := ev_Hc (c := ab_k s0 = 4) d22_37 rfl rfl rfl rfl rfl rfl rfl rfl
theorem d22_40 : decode (ab_C 22) 40 = .ok (.iconst 1, 1) := by decide +kernel
theorem e22_40 {d : Nat} {l0 l1 : Option Value} {s0 : Int32} {s1 : Nat} {σ : ab_St} {Q : Option Value → ab_St → Prop} : Ev d 22 40 [l0, l1] [.int s0, .ref s1] σ Q = Ev d 22 41 [l0, l1] [.int 1, .int s0, .ref s1] σ Q := ev_A1 d22_40 rfl
theorem d22_41 : decode (ab_C 22) 41 = .ok (.aload_n 0, 1) := by decide +kernel
theorem e22_41 {d : Nat} {l1 : Option Value} {x : Nat} {s0 : Int32} {s1 : Int32} {s2 : Nat} {σ : ab_St} {Q : Option Value → ab_St → Prop} : Ev d 22 41 [some (.ref x), l1] [.int s0, .int s1, .ref s2] σ Q = Ev d 22 42 [some (.ref x), l1] [.ref x, .int s0, .int s1, .ref s2] σ Q := ev_A1 d22_41 rfl
theorem d22_42 : decode (ab_C 22) 42 = .ok (.getfield 12, 3) := by decide +kernel
theorem e22_42 {d : Nat} {l0 l1 : Option Value} {s0 : Nat} {s1 : Int32} {s2 : Int32} {s3 : Nat} {σ : ab_St} {Q : Option Value → ab_St → Prop} : Ev d 22 42 [l0, l1] [.ref s0, .int s1, .int s2, .ref s3] σ Q = (ab_k s0 = 2 ∧ Ev d 22 45 [l0, l1] [.ref (ab_r s0 0), .int s1, .int s2, .ref s3] σ Q) := ev_Hc (c := ab_k s0 = 2) d22_42 rfl rfl rfl rfl rfl rfl rfl rfl
theorem d22_45 : decode (ab_C 22) 45 = .ok (.getfield 45, 3) := by decide +kernel
theorem e22_45 {d : Nat} {l0 l1 : Option Value} {s0 : Nat} {s1 : Int32} {s2 : Int32} {s3 : Nat} {σ : ab_St} {Q : Option Value → ab_St → Prop} : Ev d 22 45 [l0, l1] [.ref s0, .int s1, .int s2, .ref s3] σ Q = (ab_k s0 = 3 ∧ Ev d 22 48 [l0, l1] [.int (σ.1 s0 4), .int s1, .int s2, .ref s3] σ Q) := ev_Hc (c := ab_k s0 = 3) d22_45 rfl rfl rfl rfl rfl rfl rfl rfl
theorem d22_48 : decode (ab_C 22) 48 = .ok (.ishl, 1) := by decide +kernel
theorem e22_48 {d : Nat} {l0 l1 : Option Value} {s0 : Int32} {s1 : Int32} {s2 : Int32} {s3 : Nat} {σ : ab_St} {Q : Option Value → ab_St → Prop} : Ev d 22 48 [l0, l1] [.int s0, .int s1, .int s2, .ref s3] σ Q = Ev d 22 49 [l0, l1] [.int (s1 <<< (s0 &&& 31)), .int s2, .ref s3] σ Q := ev_A2 d22_48 rfl rfl
theorem d22_49 : decode (ab_C 22) 49 = .ok (.ior, 1) := by decide +kernel
theorem e22_49 {d : Nat} {l0 l1 : Option Value} {s0 : Int32} {s1 : Int32} {s2 : Nat} {σ : ab_St} {Q : Option Value → ab_St → Prop} : Ev d 22 49 [l0, l1] [.int s0, .int s1, .ref s2] σ Q = Ev d 22 50 [l0, l1] [.int (s1 ||| s0), .ref s2] σ Q := ev_A2 d22_49 rfl rfl
theorem d22_50 : decode (ab_C 22) 50 = .ok (.putfield 61, 3) := by decide +kernel
theorem e22_50 {d : Nat} {l0 l1 : Option Value} {s0 : Int32} {s1 : Nat} {σ : ab_St} {Q : Option Value → ab_St → Prop} : Ev d 22 50 [l0, l1] [.int s0, .ref s1] σ Q = (ab_k s1 = 4 ∧ Ev d 22 53 [l0, l1] [] (ab_wI σ s1 (upd (σ.1 s1) 1 s0)) Q) := ev_Hc (c := ab_k s1 = 4) d22_50 rfl rfl rfl rfl rfl rfl rfl rfl
theorem d22_53 : decode (ab_C 22) 53 = .ok (.aload_n 0, 1) := by decide +kernel
theorem e22_53 {d : Nat} {l1 : Option Value} {x : Nat} {σ : ab_St} {Q : Option Value → ab_St → Prop} : Ev d 22 53 [some (.ref x), l1] [] σ Q = Ev d 22 54 [some (.ref x), l1] [.ref x] σ Q := ev_A1 d22_53 rfl
theorem d22_54 : decode (ab_C 22) 54 = .ok (.iconst 3, 1) := by decide +kernel
theorem e22_54 {d : Nat} {l0 l1 : Option Value} {s0 : Nat} {σ : ab_St} {Q : Option Value → ab_St → Prop} : Ev d 22 54 [l0, l1] [.ref s0] σ Q = Ev d 22 55 [l0, l1] [.int 3, .ref s0] σ Q := ev_A1 d22_54 rfl
theorem d22_55 : decode (ab_C 22) 55 = .ok (.putfield 42, 3) := by decide +kernel
theorem e22_55 {d : Nat} {l0 l1 : Option Value} {s0 : Int32} {s1 : Nat} {σ : ab_St} {Q : Option Value → ab_St → Prop} : Ev d 22 55 [l0, l1] [.int s0, .ref s1] σ Q = (ab_k s1 = 2 ∧ Ev d 22 58 [l0, l1] [] (ab_wI σ s1 (upd (σ.1 s1) 2 s0)) Q) := ev_Hc (c := ab_k s1 = 2) d22_55 rfl rfl rfl rfl rfl rfl rfl rfl
theorem d22_58 : decode (ab_C 22) 58 = .ok (.iconst 1, 1) := by decide +kernel
theorem e22_58 {d : Nat} {l0 l1 : Option Value} {σ : ab_St} {Q : Option Value → ab_St → Prop} : Ev d 22 58 [l0, l1] [] σ Q = Ev d 22 59 [l0, l1] [.int 1] σ Q := ev_A1 d22_58 rfl
theorem d22_59 : decode (ab_C 22) 59 = .ok (.ireturn, 1) := by decide +kernel
theorem e22_59 {d : Nat} {l0 l1 : Option Value} {s0 : Int32} {σ : ab_St} {Q : Option Value → ab_St → Prop} : Ev d 22 59 [l0, l1] [.int s0] σ Q = ((s0 = 0 ∨ s0 = 1) ∧ Q (some (.int s0)) σ) := ev_Z d22_59 rfl
/-! SaidLeast$Reader.takesTens(I)Z -/
theorem d23_0 : decode (ab_C 23) 0 = .ok (.iload_n 1, 1) := by decide +kernel
theorem e23_0 {d : Nat} {l0 : Option Value} {x : Int32} {σ : ab_St} {Q : Option Value → ab_St → Prop} : Ev d 23 0 [l0, some (.int x)] [] σ Q = Ev d 23 1 [l0, some (.int x)] [.int x] σ Q := ev_A1 d23_0 rfl
theorem d23_1 : decode (ab_C 23) 1 = .ok (.ifCond .lt 21, 3) := by decide +kernel
theorem e23_1 {d : Nat} {l0 l1 : Option Value} {s0 : Int32} {σ : ab_St} {Q : Option Value → ab_St → Prop} : Ev d 23 1 [l0, l1] [.int s0] σ Q = if s0 < 0 then Ev d 23 22 [l0, l1] [] σ Q else Ev d 23 4 [l0, l1] [] σ Q := ev_B (c := s0 < 0) d23_1 rfl rfl rfl rfl rfl
theorem d23_4 : decode (ab_C 23) 4 = .ok (.iload_n 1, 1) := by decide +kernel
theorem e23_4 {d : Nat} {l0 : Option Value} {x : Int32} {σ : ab_St} {Q : Option Value → ab_St → Prop} : Ev d 23 4 [l0, some (.int x)] [] σ Q = Ev d 23 5 [l0, some (.int x)] [.int x] σ Q := ev_A1 d23_4 rfl
theorem d23_5 : decode (ab_C 23) 5 = .ok (.bipush 9, 2) := by decide +kernel
theorem e23_5 {d : Nat} {l0 l1 : Option Value} {s0 : Int32} {σ : ab_St} {Q : Option Value → ab_St → Prop} : Ev d 23 5 [l0, l1] [.int s0] σ Q = Ev d 23 7 [l0, l1] [.int 9, .int s0] σ Q := ev_A1 d23_5 rfl
theorem d23_7 : decode (ab_C 23) 7 = .ok (.if_icmp .gt 15, 3) := by decide +kernel
theorem e23_7 {d : Nat} {l0 l1 : Option Value} {s0 : Int32} {s1 : Int32} {σ : ab_St} {Q : Option Value → ab_St → Prop} : Ev d 23 7 [l0, l1] [.int s0, .int s1] σ Q = if s0 < s1 then Ev d 23 22 [l0, l1] [] σ Q else Ev d 23 10 [l0, l1] [] σ Q := ev_B (c := s0 < s1) d23_7 rfl rfl rfl rfl rfl
theorem d23_10 : decode (ab_C 23) 10 = .ok (.aload_n 0, 1) := by decide +kernel
theorem e23_10 {d : Nat} {l1 : Option Value} {x : Nat} {σ : ab_St} {Q : Option Value → ab_St → Prop} : Ev d 23 10 [some (.ref x), l1] [] σ Q = Ev d 23 11 [some (.ref x), l1] [.ref x] σ Q := ev_A1 d23_10 rfl
theorem d23_11 : decode (ab_C 23) 11 = .ok (.getfield 12, 3) := by decide +kernel
theorem e23_11 {d : Nat} {l0 l1 : Option Value} {s0 : Nat} {σ : ab_St} {Q : Option Value → ab_St → Prop} : Ev d 23 11 [l0, l1] [.ref s0] σ Q = (ab_k s0 = 2 ∧ Ev d 23 14 [l0, l1] [.ref (ab_r s0 0)] σ Q) := ev_Hc (c := ab_k s0 = 2) d23_11 rfl rfl rfl rfl rfl rfl rfl rfl
theorem d23_14 : decode (ab_C 23) 14 = .ok (.getfield 45, 3) := by decide +kernel
theorem e23_14 {d : Nat} {l0 l1 : Option Value} {s0 : Nat} {σ : ab_St} {Q : Option Value → ab_St → Prop} : Ev d 23 14 [l0, l1] [.ref s0] σ Q = (ab_k s0 = 3 ∧ Ev d 23 17 [l0, l1] [.int (σ.1 s0 4)] σ Q) := ev_Hc (c := ab_k s0 = 3) d23_14 rfl rfl rfl rfl rfl rfl rfl rfl
theorem d23_17 : decode (ab_C 23) 17 = .ok (.bipush 6, 2) := by decide +kernel
theorem e23_17 {d : Nat} {l0 l1 : Option Value} {s0 : Int32} {σ : ab_St} {Q : Option Value → ab_St → Prop} : Ev d 23 17 [l0, l1] [.int s0] σ Q = Ev d 23 19 [l0, l1] [.int 6, .int s0] σ Q := ev_A1 d23_17 rfl
theorem d23_19 : decode (ab_C 23) 19 = .ok (.if_icmp .lt 5, 3) := by decide +kernel
theorem e23_19 {d : Nat} {l0 l1 : Option Value} {s0 : Int32} {s1 : Int32} {σ : ab_St} {Q : Option Value → ab_St → Prop} : Ev d 23 19 [l0, l1] [.int s0, .int s1] σ Q = if s1 < s0 then Ev d 23 24 [l0, l1] [] σ Q else Ev d 23 22 [l0, l1] [] σ Q := ev_B (c := s1 < s0) d23_19 rfl rfl rfl rfl rfl
theorem d23_22 : decode (ab_C 23) 22 = .ok (.iconst 0, 1) := by decide +kernel
theorem e23_22 {d : Nat} {l0 l1 : Option Value} {σ : ab_St} {Q : Option Value → ab_St → Prop} : Ev d 23 22 [l0, l1] [] σ Q = Ev d 23 23 [l0, l1] [.int 0] σ Q := ev_A1 d23_22 rfl
theorem d23_23 : decode (ab_C 23) 23 = .ok (.ireturn, 1) := by decide +kernel
theorem e23_23 {d : Nat} {l0 l1 : Option Value} {s0 : Int32} {σ : ab_St} {Q : Option Value → ab_St → Prop} : Ev d 23 23 [l0, l1] [.int s0] σ Q = ((s0 = 0 ∨ s0 = 1) ∧ Q (some (.int s0)) σ) := ev_Z d23_23 rfl
theorem d23_24 : decode (ab_C 23) 24 = .ok (.aload_n 0, 1) := by decide +kernel
theorem e23_24 {d : Nat} {l1 : Option Value} {x : Nat} {σ : ab_St} {Q : Option Value → ab_St → Prop} : Ev d 23 24 [some (.ref x), l1] [] σ Q = Ev d 23 25 [some (.ref x), l1] [.ref x] σ Q := ev_A1 d23_24 rfl
theorem d23_25 : decode (ab_C 23) 25 = .ok (.getfield 21, 3) := by decide +kernel
theorem e23_25 {d : Nat} {l0 l1 : Option Value} {s0 : Nat} {σ : ab_St} {Q : Option Value → ab_St → Prop} : Ev d 23 25 [l0, l1] [.ref s0] σ Q = (ab_k s0 = 2 ∧ Ev d 23 28 [l0, l1] [.ref (ab_r s0 1)] σ Q) := ev_Hc (c := ab_k s0 = 2) d23_25 rfl rfl rfl rfl rfl rfl rfl rfl
theorem d23_28 : decode (ab_C 23) 28 = .ok (.getfield 51, 3) := by decide +kernel
theorem e23_28 {d : Nat} {l0 l1 : Option Value} {s0 : Nat} {σ : ab_St} {Q : Option Value → ab_St → Prop} : Ev d 23 28 [l0, l1] [.ref s0] σ Q = (ab_k s0 = 4 ∧ Ev d 23 31 [l0, l1] [.ref (ab_r s0 0)] σ Q) := ev_Hc (c := ab_k s0 = 4) d23_28 rfl rfl rfl rfl rfl rfl rfl rfl
theorem d23_31 : decode (ab_C 23) 31 = .ok (.aload_n 0, 1) := by decide +kernel
theorem e23_31 {d : Nat} {l1 : Option Value} {x : Nat} {s0 : Nat} {σ : ab_St} {Q : Option Value → ab_St → Prop} : Ev d 23 31 [some (.ref x), l1] [.ref s0] σ Q = Ev d 23 32 [some (.ref x), l1] [.ref x, .ref s0] σ Q := ev_A1 d23_31 rfl
theorem d23_32 : decode (ab_C 23) 32 = .ok (.getfield 12, 3) := by decide +kernel
theorem e23_32 {d : Nat} {l0 l1 : Option Value} {s0 : Nat} {s1 : Nat} {σ : ab_St} {Q : Option Value → ab_St → Prop} : Ev d 23 32 [l0, l1] [.ref s0, .ref s1] σ Q = (ab_k s0 = 2 ∧ Ev d 23 35 [l0, l1] [.ref (ab_r s0 0), .ref s1] σ Q) := ev_Hc (c := ab_k s0 = 2) d23_32 rfl rfl rfl rfl rfl rfl rfl rfl
theorem d23_35 : decode (ab_C 23) 35 = .ok (.getfield 45, 3) := by decide +kernel
theorem e23_35 {d : Nat} {l0 l1 : Option Value} {s0 : Nat} {s1 : Nat} {σ : ab_St} {Q : Option Value → ab_St → Prop} : Ev d 23 35 [l0, l1] [.ref s0, .ref s1] σ Q = (ab_k s0 = 3 ∧ Ev d 23 38 [l0, l1] [.int (σ.1 s0 4), .ref s1] σ Q) := ev_Hc (c := ab_k s0 = 3) d23_35 rfl rfl rfl rfl rfl rfl rfl rfl
theorem d23_38 : decode (ab_C 23) 38 = .ok (.bipush 10, 2) := by decide +kernel
theorem e23_38 {d : Nat} {l0 l1 : Option Value} {s0 : Int32} {s1 : Nat} {σ : ab_St} {Q : Option Value → ab_St → Prop} : Ev d 23 38 [l0, l1] [.int s0, .ref s1] σ Q = Ev d 23 40 [l0, l1] [.int 10, .int s0, .ref s1] σ Q := ev_A1 d23_38 rfl
theorem d23_40 : decode (ab_C 23) 40 = .ok (.iload_n 1, 1) := by decide +kernel
theorem e23_40 {d : Nat} {l0 : Option Value} {x : Int32} {s0 : Int32} {s1 : Int32} {s2 : Nat} {σ : ab_St} {Q : Option Value → ab_St → Prop} : Ev d 23 40 [l0, some (.int x)] [.int s0, .int s1, .ref s2] σ Q = Ev d 23 41 [l0, some (.int x)] [.int x, .int s0, .int s1, .ref s2] σ Q := ev_A1 d23_40 rfl
theorem d23_41 : decode (ab_C 23) 41 = .ok (.imul, 1) := by decide +kernel
theorem e23_41 {d : Nat} {l0 l1 : Option Value} {s0 : Int32} {s1 : Int32} {s2 : Int32} {s3 : Nat} {σ : ab_St} {Q : Option Value → ab_St → Prop} : Ev d 23 41 [l0, l1] [.int s0, .int s1, .int s2, .ref s3] σ Q = Ev d 23 42 [l0, l1] [.int (s1 * s0), .int s2, .ref s3] σ Q := ev_A2 d23_41 rfl rfl
theorem d23_42 : decode (ab_C 23) 42 = .ok (.iastore, 1) := by decide +kernel
theorem e23_42 {d : Nat} {l0 l1 : Option Value} {s0 : Int32} {s1 : Int32} {s2 : Nat} {σ : ab_St} {Q : Option Value → ab_St → Prop} : Ev d 23 42 [l0, l1] [.int s0, .int s1, .ref s2] σ Q = ((ab_k s2 = 100 ∧ ab_in s1 (ab_n s2)) ∧ Ev d 23 43 [l0, l1] [] (ab_wI σ s2 (upd (σ.1 s2) s1.toNatClampNeg s0)) Q) := ev_Hc (c := ab_k s2 = 100 ∧ ab_in s1 (ab_n s2)) d23_42 rfl rfl rfl rfl rfl rfl rfl rfl
theorem d23_43 : decode (ab_C 23) 43 = .ok (.aload_n 0, 1) := by decide +kernel
theorem e23_43 {d : Nat} {l1 : Option Value} {x : Nat} {σ : ab_St} {Q : Option Value → ab_St → Prop} : Ev d 23 43 [some (.ref x), l1] [] σ Q = Ev d 23 44 [some (.ref x), l1] [.ref x] σ Q := ev_A1 d23_43 rfl
theorem d23_44 : decode (ab_C 23) 44 = .ok (.iconst 4, 1) := by decide +kernel
theorem e23_44 {d : Nat} {l0 l1 : Option Value} {s0 : Nat} {σ : ab_St} {Q : Option Value → ab_St → Prop} : Ev d 23 44 [l0, l1] [.ref s0] σ Q = Ev d 23 45 [l0, l1] [.int 4, .ref s0] σ Q := ev_A1 d23_44 rfl
theorem d23_45 : decode (ab_C 23) 45 = .ok (.putfield 42, 3) := by decide +kernel
theorem e23_45 {d : Nat} {l0 l1 : Option Value} {s0 : Int32} {s1 : Nat} {σ : ab_St} {Q : Option Value → ab_St → Prop} : Ev d 23 45 [l0, l1] [.int s0, .ref s1] σ Q = (ab_k s1 = 2 ∧ Ev d 23 48 [l0, l1] [] (ab_wI σ s1 (upd (σ.1 s1) 2 s0)) Q) := ev_Hc (c := ab_k s1 = 2) d23_45 rfl rfl rfl rfl rfl rfl rfl rfl
theorem d23_48 : decode (ab_C 23) 48 = .ok (.iconst 1, 1) := by decide +kernel
theorem e23_48 {d : Nat} {l0 l1 : Option Value} {σ : ab_St} {Q : Option Value → ab_St → Prop} : Ev d 23 48 [l0, l1] [] σ Q = Ev d 23 49 [l0, l1] [.int 1] σ Q := ev_A1 d23_48 rfl
theorem d23_49 : decode (ab_C 23) 49 = .ok (.ireturn, 1) := by decide +kernel
theorem e23_49 {d : Nat} {l0 l1 : Option Value} {s0 : Int32} {σ : ab_St} {Q : Option Value → ab_St → Prop} : Ev d 23 49 [l0, l1] [.int s0] σ Q = ((s0 = 0 ∨ s0 = 1) ∧ Q (some (.int s0)) σ) := ev_Z d23_49 rfl
/-! SaidLeast$Reader.takesOnes(I)Z -/
theorem d24_0 : decode (ab_C 24) 0 = .ok (.iload_n 1, 1) := by decide +kernel
theorem e24_0 {d : Nat} {l0 : Option Value} {x : Int32} {σ : ab_St} {Q : Option Value → ab_St → Prop} : Ev d 24 0 [l0, some (.int x)] [] σ Q = Ev d 24 1 [l0, some (.int x)] [.int x] σ Q := ev_A1 d24_0 rfl
theorem d24_1 : decode (ab_C 24) 1 = .ok (.ifCond .lt 21, 3) := by decide +kernel
theorem e24_1 {d : Nat} {l0 l1 : Option Value} {s0 : Int32} {σ : ab_St} {Q : Option Value → ab_St → Prop} : Ev d 24 1 [l0, l1] [.int s0] σ Q = if s0 < 0 then Ev d 24 22 [l0, l1] [] σ Q else Ev d 24 4 [l0, l1] [] σ Q := ev_B (c := s0 < 0) d24_1 rfl rfl rfl rfl rfl
theorem d24_4 : decode (ab_C 24) 4 = .ok (.iload_n 1, 1) := by decide +kernel
theorem e24_4 {d : Nat} {l0 : Option Value} {x : Int32} {σ : ab_St} {Q : Option Value → ab_St → Prop} : Ev d 24 4 [l0, some (.int x)] [] σ Q = Ev d 24 5 [l0, some (.int x)] [.int x] σ Q := ev_A1 d24_4 rfl
theorem d24_5 : decode (ab_C 24) 5 = .ok (.bipush 9, 2) := by decide +kernel
theorem e24_5 {d : Nat} {l0 l1 : Option Value} {s0 : Int32} {σ : ab_St} {Q : Option Value → ab_St → Prop} : Ev d 24 5 [l0, l1] [.int s0] σ Q = Ev d 24 7 [l0, l1] [.int 9, .int s0] σ Q := ev_A1 d24_5 rfl
theorem d24_7 : decode (ab_C 24) 7 = .ok (.if_icmp .gt 15, 3) := by decide +kernel
theorem e24_7 {d : Nat} {l0 l1 : Option Value} {s0 : Int32} {s1 : Int32} {σ : ab_St} {Q : Option Value → ab_St → Prop} : Ev d 24 7 [l0, l1] [.int s0, .int s1] σ Q = if s0 < s1 then Ev d 24 22 [l0, l1] [] σ Q else Ev d 24 10 [l0, l1] [] σ Q := ev_B (c := s0 < s1) d24_7 rfl rfl rfl rfl rfl
theorem d24_10 : decode (ab_C 24) 10 = .ok (.aload_n 0, 1) := by decide +kernel
theorem e24_10 {d : Nat} {l1 : Option Value} {x : Nat} {σ : ab_St} {Q : Option Value → ab_St → Prop} : Ev d 24 10 [some (.ref x), l1] [] σ Q = Ev d 24 11 [some (.ref x), l1] [.ref x] σ Q := ev_A1 d24_10 rfl
theorem d24_11 : decode (ab_C 24) 11 = .ok (.getfield 12, 3) := by decide +kernel
theorem e24_11 {d : Nat} {l0 l1 : Option Value} {s0 : Nat} {σ : ab_St} {Q : Option Value → ab_St → Prop} : Ev d 24 11 [l0, l1] [.ref s0] σ Q = (ab_k s0 = 2 ∧ Ev d 24 14 [l0, l1] [.ref (ab_r s0 0)] σ Q) := ev_Hc (c := ab_k s0 = 2) d24_11 rfl rfl rfl rfl rfl rfl rfl rfl
theorem d24_14 : decode (ab_C 24) 14 = .ok (.getfield 45, 3) := by decide +kernel
theorem e24_14 {d : Nat} {l0 l1 : Option Value} {s0 : Nat} {σ : ab_St} {Q : Option Value → ab_St → Prop} : Ev d 24 14 [l0, l1] [.ref s0] σ Q = (ab_k s0 = 3 ∧ Ev d 24 17 [l0, l1] [.int (σ.1 s0 4)] σ Q) := ev_Hc (c := ab_k s0 = 3) d24_14 rfl rfl rfl rfl rfl rfl rfl rfl
theorem d24_17 : decode (ab_C 24) 17 = .ok (.bipush 6, 2) := by decide +kernel
theorem e24_17 {d : Nat} {l0 l1 : Option Value} {s0 : Int32} {σ : ab_St} {Q : Option Value → ab_St → Prop} : Ev d 24 17 [l0, l1] [.int s0] σ Q = Ev d 24 19 [l0, l1] [.int 6, .int s0] σ Q := ev_A1 d24_17 rfl
theorem d24_19 : decode (ab_C 24) 19 = .ok (.if_icmp .lt 5, 3) := by decide +kernel
theorem e24_19 {d : Nat} {l0 l1 : Option Value} {s0 : Int32} {s1 : Int32} {σ : ab_St} {Q : Option Value → ab_St → Prop} : Ev d 24 19 [l0, l1] [.int s0, .int s1] σ Q = if s1 < s0 then Ev d 24 24 [l0, l1] [] σ Q else Ev d 24 22 [l0, l1] [] σ Q := ev_B (c := s1 < s0) d24_19 rfl rfl rfl rfl rfl
theorem d24_22 : decode (ab_C 24) 22 = .ok (.iconst 0, 1) := by decide +kernel
theorem e24_22 {d : Nat} {l0 l1 : Option Value} {σ : ab_St} {Q : Option Value → ab_St → Prop} : Ev d 24 22 [l0, l1] [] σ Q = Ev d 24 23 [l0, l1] [.int 0] σ Q := ev_A1 d24_22 rfl
theorem d24_23 : decode (ab_C 24) 23 = .ok (.ireturn, 1) := by decide +kernel
theorem e24_23 {d : Nat} {l0 l1 : Option Value} {s0 : Int32} {σ : ab_St} {Q : Option Value → ab_St → Prop} : Ev d 24 23 [l0, l1] [.int s0] σ Q = ((s0 = 0 ∨ s0 = 1) ∧ Q (some (.int s0)) σ) := ev_Z d24_23 rfl
theorem d24_24 : decode (ab_C 24) 24 = .ok (.aload_n 0, 1) := by decide +kernel
theorem e24_24 {d : Nat} {l1 : Option Value} {x : Nat} {σ : ab_St} {Q : Option Value → ab_St → Prop} : Ev d 24 24 [some (.ref x), l1] [] σ Q = Ev d 24 25 [some (.ref x), l1] [.ref x] σ Q := ev_A1 d24_24 rfl
theorem d24_25 : decode (ab_C 24) 25 = .ok (.getfield 21, 3) := by decide +kernel
theorem e24_25 {d : Nat} {l0 l1 : Option Value} {s0 : Nat} {σ : ab_St} {Q : Option Value → ab_St → Prop} : Ev d 24 25 [l0, l1] [.ref s0] σ Q = (ab_k s0 = 2 ∧ Ev d 24 28 [l0, l1] [.ref (ab_r s0 1)] σ Q) := ev_Hc (c := ab_k s0 = 2) d24_25 rfl rfl rfl rfl rfl rfl rfl rfl
theorem d24_28 : decode (ab_C 24) 28 = .ok (.getfield 51, 3) := by decide +kernel
theorem e24_28 {d : Nat} {l0 l1 : Option Value} {s0 : Nat} {σ : ab_St} {Q : Option Value → ab_St → Prop} : Ev d 24 28 [l0, l1] [.ref s0] σ Q = (ab_k s0 = 4 ∧ Ev d 24 31 [l0, l1] [.ref (ab_r s0 0)] σ Q) := ev_Hc (c := ab_k s0 = 4) d24_28 rfl rfl rfl rfl rfl rfl rfl rfl
theorem d24_31 : decode (ab_C 24) 31 = .ok (.aload_n 0, 1) := by decide +kernel
theorem e24_31 {d : Nat} {l1 : Option Value} {x : Nat} {s0 : Nat} {σ : ab_St} {Q : Option Value → ab_St → Prop} : Ev d 24 31 [some (.ref x), l1] [.ref s0] σ Q = Ev d 24 32 [some (.ref x), l1] [.ref x, .ref s0] σ Q := ev_A1 d24_31 rfl
theorem d24_32 : decode (ab_C 24) 32 = .ok (.getfield 12, 3) := by decide +kernel
theorem e24_32 {d : Nat} {l0 l1 : Option Value} {s0 : Nat} {s1 : Nat} {σ : ab_St} {Q : Option Value → ab_St → Prop} : Ev d 24 32 [l0, l1] [.ref s0, .ref s1] σ Q = (ab_k s0 = 2 ∧ Ev d 24 35 [l0, l1] [.ref (ab_r s0 0), .ref s1] σ Q) := ev_Hc (c := ab_k s0 = 2) d24_32 rfl rfl rfl rfl rfl rfl rfl rfl
theorem d24_35 : decode (ab_C 24) 35 = .ok (.getfield 45, 3) := by decide +kernel
theorem e24_35 {d : Nat} {l0 l1 : Option Value} {s0 : Nat} {s1 : Nat} {σ : ab_St} {Q : Option Value → ab_St → Prop} : Ev d 24 35 [l0, l1] [.ref s0, .ref s1] σ Q = (ab_k s0 = 3 ∧ Ev d 24 38 [l0, l1] [.int (σ.1 s0 4), .ref s1] σ Q) := ev_Hc (c := ab_k s0 = 3) d24_35 rfl rfl rfl rfl rfl rfl rfl rfl
theorem d24_38 : decode (ab_C 24) 38 = .ok (.dup2, 1) := by decide +kernel
theorem e24_38 {d : Nat} {l0 l1 : Option Value} {s0 : Int32} {s1 : Nat} {σ : ab_St} {Q : Option Value → ab_St → Prop} : Ev d 24 38 [l0, l1] [.int s0, .ref s1] σ Q = Ev d 24 39 [l0, l1] [.int s0, .ref s1, .int s0, .ref s1] σ Q := ev_A1 d24_38 rfl
theorem d24_39 : decode (ab_C 24) 39 = .ok (.iaload, 1) := by decide +kernel
theorem e24_39 {d : Nat} {l0 l1 : Option Value} {s0 : Int32} {s1 : Nat} {s2 : Int32} {s3 : Nat} {σ : ab_St} {Q : Option Value → ab_St → Prop} : Ev d 24 39 [l0, l1] [.int s0, .ref s1, .int s2, .ref s3] σ Q = ((ab_k s1 = 100 ∧ ab_in s0 (ab_n s1)) ∧ Ev d 24 40 [l0, l1] [.int (σ.1 s1 s0.toNatClampNeg), .int s2, .ref s3] σ Q) := ev_Hc (c := ab_k s1 = 100 ∧ ab_in s0 (ab_n s1)) d24_39 rfl rfl rfl rfl rfl rfl rfl rfl
theorem d24_40 : decode (ab_C 24) 40 = .ok (.iload_n 1, 1) := by decide +kernel
theorem e24_40 {d : Nat} {l0 : Option Value} {x : Int32} {s0 : Int32} {s1 : Int32} {s2 : Nat} {σ : ab_St} {Q : Option Value → ab_St → Prop} : Ev d 24 40 [l0, some (.int x)] [.int s0, .int s1, .ref s2] σ Q = Ev d 24 41 [l0, some (.int x)] [.int x, .int s0, .int s1, .ref s2] σ Q := ev_A1 d24_40 rfl
theorem d24_41 : decode (ab_C 24) 41 = .ok (.iadd, 1) := by decide +kernel
theorem e24_41 {d : Nat} {l0 l1 : Option Value} {s0 : Int32} {s1 : Int32} {s2 : Int32} {s3 : Nat} {σ : ab_St} {Q : Option Value → ab_St → Prop} : Ev d 24 41 [l0, l1] [.int s0, .int s1, .int s2, .ref s3] σ Q = Ev d 24 42 [l0, l1] [.int (s1 + s0), .int s2, .ref s3] σ Q := ev_A2 d24_41 rfl rfl
theorem d24_42 : decode (ab_C 24) 42 = .ok (.iastore, 1) := by decide +kernel
theorem e24_42 {d : Nat} {l0 l1 : Option Value} {s0 : Int32} {s1 : Int32} {s2 : Nat} {σ : ab_St} {Q : Option Value → ab_St → Prop} : Ev d 24 42 [l0, l1] [.int s0, .int s1, .ref s2] σ Q = ((ab_k s2 = 100 ∧ ab_in s1 (ab_n s2)) ∧ Ev d 24 43 [l0, l1] [] (ab_wI σ s2 (upd (σ.1 s2) s1.toNatClampNeg s0)) Q) := ev_Hc (c := ab_k s2 = 100 ∧ ab_in s1 (ab_n s2)) d24_42 rfl rfl rfl rfl rfl rfl rfl rfl
theorem d24_43 : decode (ab_C 24) 43 = .ok (.aload_n 0, 1) := by decide +kernel
theorem e24_43 {d : Nat} {l1 : Option Value} {x : Nat} {σ : ab_St} {Q : Option Value → ab_St → Prop} : Ev d 24 43 [some (.ref x), l1] [] σ Q = Ev d 24 44 [some (.ref x), l1] [.ref x] σ Q := ev_A1 d24_43 rfl
theorem d24_44 : decode (ab_C 24) 44 = .ok (.getfield 12, 3) := by decide +kernel
theorem e24_44 {d : Nat} {l0 l1 : Option Value} {s0 : Nat} {σ : ab_St} {Q : Option Value → ab_St → Prop} : Ev d 24 44 [l0, l1] [.ref s0] σ Q = (ab_k s0 = 2 ∧ Ev d 24 47 [l0, l1] [.ref (ab_r s0 0)] σ Q) := ev_Hc (c := ab_k s0 = 2) d24_44 rfl rfl rfl rfl rfl rfl rfl rfl
theorem d24_47 : decode (ab_C 24) 47 = .ok (.dup, 1) := by decide +kernel
theorem e24_47 {d : Nat} {l0 l1 : Option Value} {s0 : Nat} {σ : ab_St} {Q : Option Value → ab_St → Prop} : Ev d 24 47 [l0, l1] [.ref s0] σ Q = Ev d 24 48 [l0, l1] [.ref s0, .ref s0] σ Q := ev_A1 d24_47 rfl
theorem d24_48 : decode (ab_C 24) 48 = .ok (.getfield 45, 3) := by decide +kernel
theorem e24_48 {d : Nat} {l0 l1 : Option Value} {s0 : Nat} {s1 : Nat} {σ : ab_St} {Q : Option Value → ab_St → Prop} : Ev d 24 48 [l0, l1] [.ref s0, .ref s1] σ Q = (ab_k s0 = 3 ∧ Ev d 24 51 [l0, l1] [.int (σ.1 s0 4), .ref s1] σ Q) := ev_Hc (c := ab_k s0 = 3) d24_48 rfl rfl rfl rfl rfl rfl rfl rfl
theorem d24_51 : decode (ab_C 24) 51 = .ok (.iconst 1, 1) := by decide +kernel
theorem e24_51 {d : Nat} {l0 l1 : Option Value} {s0 : Int32} {s1 : Nat} {σ : ab_St} {Q : Option Value → ab_St → Prop} : Ev d 24 51 [l0, l1] [.int s0, .ref s1] σ Q = Ev d 24 52 [l0, l1] [.int 1, .int s0, .ref s1] σ Q := ev_A1 d24_51 rfl
theorem d24_52 : decode (ab_C 24) 52 = .ok (.iadd, 1) := by decide +kernel
theorem e24_52 {d : Nat} {l0 l1 : Option Value} {s0 : Int32} {s1 : Int32} {s2 : Nat} {σ : ab_St} {Q : Option Value → ab_St → Prop} : Ev d 24 52 [l0, l1] [.int s0, .int s1, .ref s2] σ Q = Ev d 24 53 [l0, l1] [.int (s1 + s0), .ref s2] σ Q := ev_A2 d24_52 rfl rfl
theorem d24_53 : decode (ab_C 24) 53 = .ok (.putfield 45, 3) := by decide +kernel
theorem e24_53 {d : Nat} {l0 l1 : Option Value} {s0 : Int32} {s1 : Nat} {σ : ab_St} {Q : Option Value → ab_St → Prop} : Ev d 24 53 [l0, l1] [.int s0, .ref s1] σ Q = (ab_k s1 = 3 ∧ Ev d 24 56 [l0, l1] [] (ab_wI σ s1 (upd (σ.1 s1) 4 s0)) Q) := ev_Hc (c := ab_k s1 = 3) d24_53 rfl rfl rfl rfl rfl rfl rfl rfl
theorem d24_56 : decode (ab_C 24) 56 = .ok (.aload_n 0, 1) := by decide +kernel
theorem e24_56 {d : Nat} {l1 : Option Value} {x : Nat} {σ : ab_St} {Q : Option Value → ab_St → Prop} : Ev d 24 56 [some (.ref x), l1] [] σ Q = Ev d 24 57 [some (.ref x), l1] [.ref x] σ Q := ev_A1 d24_56 rfl
theorem d24_57 : decode (ab_C 24) 57 = .ok (.iconst 2, 1) := by decide +kernel
theorem e24_57 {d : Nat} {l0 l1 : Option Value} {s0 : Nat} {σ : ab_St} {Q : Option Value → ab_St → Prop} : Ev d 24 57 [l0, l1] [.ref s0] σ Q = Ev d 24 58 [l0, l1] [.int 2, .ref s0] σ Q := ev_A1 d24_57 rfl
theorem d24_58 : decode (ab_C 24) 58 = .ok (.putfield 42, 3) := by decide +kernel
theorem e24_58 {d : Nat} {l0 l1 : Option Value} {s0 : Int32} {s1 : Nat} {σ : ab_St} {Q : Option Value → ab_St → Prop} : Ev d 24 58 [l0, l1] [.int s0, .ref s1] σ Q = (ab_k s1 = 2 ∧ Ev d 24 61 [l0, l1] [] (ab_wI σ s1 (upd (σ.1 s1) 2 s0)) Q) := ev_Hc (c := ab_k s1 = 2) d24_58 rfl rfl rfl rfl rfl rfl rfl rfl
theorem d24_61 : decode (ab_C 24) 61 = .ok (.iconst 1, 1) := by decide +kernel
theorem e24_61 {d : Nat} {l0 l1 : Option Value} {σ : ab_St} {Q : Option Value → ab_St → Prop} : Ev d 24 61 [l0, l1] [] σ Q = Ev d 24 62 [l0, l1] [.int 1] σ Q := ev_A1 d24_61 rfl
theorem d24_62 : decode (ab_C 24) 62 = .ok (.ireturn, 1) := by decide +kernel
theorem e24_62 {d : Nat} {l0 l1 : Option Value} {s0 : Int32} {σ : ab_St} {Q : Option Value → ab_St → Prop} : Ev d 24 62 [l0, l1] [.int s0] σ Q = ((s0 = 0 ∨ s0 = 1) ∧ Q (some (.int s0)) σ) := ev_Z d24_62 rfl
/-! SaidLeast$Reader.takesSpeaker(I)Z -/
theorem d25_0 : decode (ab_C 25) 0 = .ok (.aload_n 0, 1) := by decide +kernel
theorem e25_0 {d : Nat} {l1 : Option Value} {x : Nat} {σ : ab_St} {Q : Option Value → ab_St → Prop} : Ev d 25 0 [some (.ref x), l1] [] σ Q = Ev d 25 1 [some (.ref x), l1] [.ref x] σ Q := ev_A1 d25_0 rfl
theorem d25_1 : decode (ab_C 25) 1 = .ok (.getfield 12, 3) := by decide +kernel
theorem e25_1 {d : Nat} {l0 l1 : Option Value} {s0 : Nat} {σ : ab_St} {Q : Option Value → ab_St → Prop} : Ev d 25 1 [l0, l1] [.ref s0] σ Q = (ab_k s0 = 2 ∧ Ev d 25 4 [l0, l1] [.ref (ab_r s0 0)] σ Q) := ev_Hc (c := ab_k s0 = 2) d25_1 rfl rfl rfl rfl rfl rfl rfl rfl
theorem d25_4 : decode (ab_C 25) 4 = .ok (.iload_n 1, 1) := by decide +kernel
theorem e25_4 {d : Nat} {l0 : Option Value} {x : Int32} {s0 : Nat} {σ : ab_St} {Q : Option Value → ab_St → Prop} : Ev d 25 4 [l0, some (.int x)] [.ref s0] σ Q = Ev d 25 5 [l0, some (.int x)] [.int x, .ref s0] σ Q := ev_A1 d25_4 rfl
theorem d25_5 : decode (ab_C 25) 5 = .ok (.invokevirtual 104, 3) := by decide +kernel
theorem e25_5 {d : Nat} {l0 l1 : Option Value} {s0 : Int32} {s1 : Nat} {σ : ab_St} {Q : Option Value → ab_St → Prop} : Ev (d + 1) 25 5 [l0, l1] [.int s0, .ref s1] σ Q = (ab_k s1 = 3 ∧ Ev d 26 0 [some (.ref s1), some (.int s0)] [] σ (fun r σ2 => Ev (d + 1) 25 8 [l0, l1] (r.toList ++ []) σ2 Q)) := ev_KV (b := s1) (ls := [l0, l1]) (st := [.int s0, .ref s1]) (as := [.int s0]) (rest := []) d25_5 rfl rfl rfl (Nat.le_of_ble_eq_true rfl) (Nat.le_of_ble_eq_true rfl) (Nat.le_of_ble_eq_true rfl) rfl rfl rfl rfl rfl rfl rfl
theorem d25_8 : decode (ab_C 25) 8 = .ok (.ifCond .eq 15, 3) := by decide +kernel
theorem e25_8 {d : Nat} {l0 l1 : Option Value} {s0 : Int32} {σ : ab_St} {Q : Option Value → ab_St → Prop} : Ev d 25 8 [l0, l1] [.int s0] σ Q = if s0 = 0 then Ev d 25 23 [l0, l1] [] σ Q else Ev d 25 11 [l0, l1] [] σ Q := ev_B (c := s0 = 0) d25_8 rfl rfl rfl rfl rfl
theorem d25_11 : decode (ab_C 25) 11 = .ok (.aload_n 0, 1) := by decide +kernel
theorem e25_11 {d : Nat} {l1 : Option Value} {x : Nat} {σ : ab_St} {Q : Option Value → ab_St → Prop} : Ev d 25 11 [some (.ref x), l1] [] σ Q = Ev d 25 12 [some (.ref x), l1] [.ref x] σ Q := ev_A1 d25_11 rfl
theorem d25_12 : decode (ab_C 25) 12 = .ok (.getfield 12, 3) := by decide +kernel
theorem e25_12 {d : Nat} {l0 l1 : Option Value} {s0 : Nat} {σ : ab_St} {Q : Option Value → ab_St → Prop} : Ev d 25 12 [l0, l1] [.ref s0] σ Q = (ab_k s0 = 2 ∧ Ev d 25 15 [l0, l1] [.ref (ab_r s0 0)] σ Q) := ev_Hc (c := ab_k s0 = 2) d25_12 rfl rfl rfl rfl rfl rfl rfl rfl
theorem d25_15 : decode (ab_C 25) 15 = .ok (.getfield 48, 3) := by decide +kernel
theorem e25_15 {d : Nat} {l0 l1 : Option Value} {s0 : Nat} {σ : ab_St} {Q : Option Value → ab_St → Prop} : Ev d 25 15 [l0, l1] [.ref s0] σ Q = (ab_k s0 = 3 ∧ Ev d 25 18 [l0, l1] [.int (σ.1 s0 5)] σ Q) := ev_Hc (c := ab_k s0 = 3) d25_15 rfl rfl rfl rfl rfl rfl rfl rfl
theorem d25_18 : decode (ab_C 25) 18 = .ok (.bipush 8, 2) := by decide +kernel
theorem e25_18 {d : Nat} {l0 l1 : Option Value} {s0 : Int32} {σ : ab_St} {Q : Option Value → ab_St → Prop} : Ev d 25 18 [l0, l1] [.int s0] σ Q = Ev d 25 20 [l0, l1] [.int 8, .int s0] σ Q := ev_A1 d25_18 rfl
theorem d25_20 : decode (ab_C 25) 20 = .ok (.if_icmp .lt 5, 3) := by decide +kernel
theorem e25_20 {d : Nat} {l0 l1 : Option Value} {s0 : Int32} {s1 : Int32} {σ : ab_St} {Q : Option Value → ab_St → Prop} : Ev d 25 20 [l0, l1] [.int s0, .int s1] σ Q = if s1 < s0 then Ev d 25 25 [l0, l1] [] σ Q else Ev d 25 23 [l0, l1] [] σ Q := ev_B (c := s1 < s0) d25_20 rfl rfl rfl rfl rfl
theorem d25_23 : decode (ab_C 25) 23 = .ok (.iconst 0, 1) := by decide +kernel
theorem e25_23 {d : Nat} {l0 l1 : Option Value} {σ : ab_St} {Q : Option Value → ab_St → Prop} : Ev d 25 23 [l0, l1] [] σ Q = Ev d 25 24 [l0, l1] [.int 0] σ Q := ev_A1 d25_23 rfl
theorem d25_24 : decode (ab_C 25) 24 = .ok (.ireturn, 1) := by decide +kernel
theorem e25_24 {d : Nat} {l0 l1 : Option Value} {s0 : Int32} {σ : ab_St} {Q : Option Value → ab_St → Prop} : Ev d 25 24 [l0, l1] [.int s0] σ Q = ((s0 = 0 ∨ s0 = 1) ∧ Q (some (.int s0)) σ) := ev_Z d25_24 rfl
theorem d25_25 : decode (ab_C 25) 25 = .ok (.aload_n 0, 1) := by decide +kernel
theorem e25_25 {d : Nat} {l1 : Option Value} {x : Nat} {σ : ab_St} {Q : Option Value → ab_St → Prop} : Ev d 25 25 [some (.ref x), l1] [] σ Q = Ev d 25 26 [some (.ref x), l1] [.ref x] σ Q := ev_A1 d25_25 rfl
theorem d25_26 : decode (ab_C 25) 26 = .ok (.getfield 12, 3) := by decide +kernel
theorem e25_26 {d : Nat} {l0 l1 : Option Value} {s0 : Nat} {σ : ab_St} {Q : Option Value → ab_St → Prop} : Ev d 25 26 [l0, l1] [.ref s0] σ Q = (ab_k s0 = 2 ∧ Ev d 25 29 [l0, l1] [.ref (ab_r s0 0)] σ Q) := ev_Hc (c := ab_k s0 = 2) d25_26 rfl rfl rfl rfl rfl rfl rfl rfl
theorem d25_29 : decode (ab_C 25) 29 = .ok (.getfield 107, 3) := by decide +kernel
theorem e25_29 {d : Nat} {l0 l1 : Option Value} {s0 : Nat} {σ : ab_St} {Q : Option Value → ab_St → Prop} : Ev d 25 29 [l0, l1] [.ref s0] σ Q = (ab_k s0 = 3 ∧ Ev d 25 32 [l0, l1] [.ref (ab_r s0 0)] σ Q) := ev_Hc (c := ab_k s0 = 3) d25_29 rfl rfl rfl rfl rfl rfl rfl rfl
theorem d25_32 : decode (ab_C 25) 32 = .ok (.aload_n 0, 1) := by decide +kernel
theorem e25_32 {d : Nat} {l1 : Option Value} {x : Nat} {s0 : Nat} {σ : ab_St} {Q : Option Value → ab_St → Prop} : Ev d 25 32 [some (.ref x), l1] [.ref s0] σ Q = Ev d 25 33 [some (.ref x), l1] [.ref x, .ref s0] σ Q := ev_A1 d25_32 rfl
theorem d25_33 : decode (ab_C 25) 33 = .ok (.getfield 12, 3) := by decide +kernel
theorem e25_33 {d : Nat} {l0 l1 : Option Value} {s0 : Nat} {s1 : Nat} {σ : ab_St} {Q : Option Value → ab_St → Prop} : Ev d 25 33 [l0, l1] [.ref s0, .ref s1] σ Q = (ab_k s0 = 2 ∧ Ev d 25 36 [l0, l1] [.ref (ab_r s0 0), .ref s1] σ Q) := ev_Hc (c := ab_k s0 = 2) d25_33 rfl rfl rfl rfl rfl rfl rfl rfl
theorem d25_36 : decode (ab_C 25) 36 = .ok (.getfield 48, 3) := by decide +kernel
theorem e25_36 {d : Nat} {l0 l1 : Option Value} {s0 : Nat} {s1 : Nat} {σ : ab_St} {Q : Option Value → ab_St → Prop} : Ev d 25 36 [l0, l1] [.ref s0, .ref s1] σ Q = (ab_k s0 = 3 ∧ Ev d 25 39 [l0, l1] [.int (σ.1 s0 5), .ref s1] σ Q) := ev_Hc (c := ab_k s0 = 3) d25_36 rfl rfl rfl rfl rfl rfl rfl rfl
theorem d25_39 : decode (ab_C 25) 39 = .ok (.iload_n 1, 1) := by decide +kernel
theorem e25_39 {d : Nat} {l0 : Option Value} {x : Int32} {s0 : Int32} {s1 : Nat} {σ : ab_St} {Q : Option Value → ab_St → Prop} : Ev d 25 39 [l0, some (.int x)] [.int s0, .ref s1] σ Q = Ev d 25 40 [l0, some (.int x)] [.int x, .int s0, .ref s1] σ Q := ev_A1 d25_39 rfl
theorem d25_40 : decode (ab_C 25) 40 = .ok (.iastore, 1) := by decide +kernel
theorem e25_40 {d : Nat} {l0 l1 : Option Value} {s0 : Int32} {s1 : Int32} {s2 : Nat} {σ : ab_St} {Q : Option Value → ab_St → Prop} : Ev d 25 40 [l0, l1] [.int s0, .int s1, .ref s2] σ Q = ((ab_k s2 = 100 ∧ ab_in s1 (ab_n s2)) ∧ Ev d 25 41 [l0, l1] [] (ab_wI σ s2 (upd (σ.1 s2) s1.toNatClampNeg s0)) Q) := ev_Hc (c := ab_k s2 = 100 ∧ ab_in s1 (ab_n s2)) d25_40 rfl rfl rfl rfl rfl rfl rfl rfl
theorem d25_41 : decode (ab_C 25) 41 = .ok (.aload_n 0, 1) := by decide +kernel
theorem e25_41 {d : Nat} {l1 : Option Value} {x : Nat} {σ : ab_St} {Q : Option Value → ab_St → Prop} : Ev d 25 41 [some (.ref x), l1] [] σ Q = Ev d 25 42 [some (.ref x), l1] [.ref x] σ Q := ev_A1 d25_41 rfl
theorem d25_42 : decode (ab_C 25) 42 = .ok (.bipush 6, 2) := by decide +kernel
theorem e25_42 {d : Nat} {l0 l1 : Option Value} {s0 : Nat} {σ : ab_St} {Q : Option Value → ab_St → Prop} : Ev d 25 42 [l0, l1] [.ref s0] σ Q = Ev d 25 44 [l0, l1] [.int 6, .ref s0] σ Q := ev_A1 d25_42 rfl
theorem d25_44 : decode (ab_C 25) 44 = .ok (.putfield 42, 3) := by decide +kernel
theorem e25_44 {d : Nat} {l0 l1 : Option Value} {s0 : Int32} {s1 : Nat} {σ : ab_St} {Q : Option Value → ab_St → Prop} : Ev d 25 44 [l0, l1] [.int s0, .ref s1] σ Q = (ab_k s1 = 2 ∧ Ev d 25 47 [l0, l1] [] (ab_wI σ s1 (upd (σ.1 s1) 2 s0)) Q) := ev_Hc (c := ab_k s1 = 2) d25_44 rfl rfl rfl rfl rfl rfl rfl rfl
theorem d25_47 : decode (ab_C 25) 47 = .ok (.iconst 1, 1) := by decide +kernel
theorem e25_47 {d : Nat} {l0 l1 : Option Value} {σ : ab_St} {Q : Option Value → ab_St → Prop} : Ev d 25 47 [l0, l1] [] σ Q = Ev d 25 48 [l0, l1] [.int 1] σ Q := ev_A1 d25_47 rfl
theorem d25_48 : decode (ab_C 25) 48 = .ok (.ireturn, 1) := by decide +kernel
theorem e25_48 {d : Nat} {l0 l1 : Option Value} {s0 : Int32} {σ : ab_St} {Q : Option Value → ab_St → Prop} : Ev d 25 48 [l0, l1] [.int s0] σ Q = ((s0 = 0 ∨ s0 = 1) ∧ Q (some (.int s0)) σ) := ev_Z d25_48 rfl
/-! SaidLeast$Told.hasPerson(I)Z -/
theorem d26_0 : decode (ab_C 26) 0 = .ok (.iload_n 1, 1) := by decide +kernel
theorem e26_0 {d : Nat} {l0 : Option Value} {x : Int32} {σ : ab_St} {Q : Option Value → ab_St → Prop} : Ev d 26 0 [l0, some (.int x)] [] σ Q = Ev d 26 1 [l0, some (.int x)] [.int x] σ Q := ev_A1 d26_0 rfl
theorem d26_1 : decode (ab_C 26) 1 = .ok (.ifCond .lt 15, 3) := by decide +kernel
theorem e26_1 {d : Nat} {l0 l1 : Option Value} {s0 : Int32} {σ : ab_St} {Q : Option Value → ab_St → Prop} : Ev d 26 1 [l0, l1] [.int s0] σ Q = if s0 < 0 then Ev d 26 16 [l0, l1] [] σ Q else Ev d 26 4 [l0, l1] [] σ Q := ev_B (c := s0 < 0) d26_1 rfl rfl rfl rfl rfl
theorem d26_4 : decode (ab_C 26) 4 = .ok (.iload_n 1, 1) := by decide +kernel
theorem e26_4 {d : Nat} {l0 : Option Value} {x : Int32} {σ : ab_St} {Q : Option Value → ab_St → Prop} : Ev d 26 4 [l0, some (.int x)] [] σ Q = Ev d 26 5 [l0, some (.int x)] [.int x] σ Q := ev_A1 d26_4 rfl
theorem d26_5 : decode (ab_C 26) 5 = .ok (.aload_n 0, 1) := by decide +kernel
theorem e26_5 {d : Nat} {l1 : Option Value} {x : Nat} {s0 : Int32} {σ : ab_St} {Q : Option Value → ab_St → Prop} : Ev d 26 5 [some (.ref x), l1] [.int s0] σ Q = Ev d 26 6 [some (.ref x), l1] [.ref x, .int s0] σ Q := ev_A1 d26_5 rfl
theorem d26_6 : decode (ab_C 26) 6 = .ok (.getfield 30, 3) := by decide +kernel
theorem e26_6 {d : Nat} {l0 l1 : Option Value} {s0 : Nat} {s1 : Int32} {σ : ab_St} {Q : Option Value → ab_St → Prop} : Ev d 26 6 [l0, l1] [.ref s0, .int s1] σ Q = (ab_k s0 = 3 ∧ Ev d 26 9 [l0, l1] [.int (σ.1 s0 4), .int s1] σ Q) := ev_Hc (c := ab_k s0 = 3) d26_6 rfl rfl rfl rfl rfl rfl rfl rfl
theorem d26_9 : decode (ab_C 26) 9 = .ok (.if_icmp .ge 7, 3) := by decide +kernel
theorem e26_9 {d : Nat} {l0 l1 : Option Value} {s0 : Int32} {s1 : Int32} {σ : ab_St} {Q : Option Value → ab_St → Prop} : Ev d 26 9 [l0, l1] [.int s0, .int s1] σ Q = if s0 ≤ s1 then Ev d 26 16 [l0, l1] [] σ Q else Ev d 26 12 [l0, l1] [] σ Q := ev_B (c := s0 ≤ s1) d26_9 rfl rfl rfl rfl rfl
theorem d26_12 : decode (ab_C 26) 12 = .ok (.iconst 1, 1) := by decide +kernel
theorem e26_12 {d : Nat} {l0 l1 : Option Value} {σ : ab_St} {Q : Option Value → ab_St → Prop} : Ev d 26 12 [l0, l1] [] σ Q = Ev d 26 13 [l0, l1] [.int 1] σ Q := ev_A1 d26_12 rfl
theorem d26_13 : decode (ab_C 26) 13 = .ok (.goto 4, 3) := by decide +kernel
theorem e26_13 {d : Nat} {l0 l1 : Option Value} {s0 : Int32} {σ : ab_St} {Q : Option Value → ab_St → Prop} : Ev d 26 13 [l0, l1] [.int s0] σ Q = Ev d 26 17 [l0, l1] [.int s0] σ Q := ev_J d26_13 rfl rfl rfl rfl rfl
theorem d26_16 : decode (ab_C 26) 16 = .ok (.iconst 0, 1) := by decide +kernel
theorem e26_16 {d : Nat} {l0 l1 : Option Value} {σ : ab_St} {Q : Option Value → ab_St → Prop} : Ev d 26 16 [l0, l1] [] σ Q = Ev d 26 17 [l0, l1] [.int 0] σ Q := ev_A1 d26_16 rfl
theorem d26_17 : decode (ab_C 26) 17 = .ok (.ireturn, 1) := by decide +kernel
theorem e26_17 {d : Nat} {l0 l1 : Option Value} {s0 : Int32} {σ : ab_St} {Q : Option Value → ab_St → Prop} : Ev d 26 17 [l0, l1] [.int s0] σ Q = ((s0 = 0 ∨ s0 = 1) ∧ Q (some (.int s0)) σ) := ev_Z d26_17 rfl
/-! SaidLeast$Reader.takesWords(I)Z -/
theorem d27_0 : decode (ab_C 27) 0 = .ok (.iload_n 1, 1) := by decide +kernel
theorem e27_0 {d : Nat} {l0 : Option Value} {x : Int32} {σ : ab_St} {Q : Option Value → ab_St → Prop} : Ev d 27 0 [l0, some (.int x)] [] σ Q = Ev d 27 1 [l0, some (.int x)] [.int x] σ Q := ev_A1 d27_0 rfl
theorem d27_1 : decode (ab_C 27) 1 = .ok (.iconst 1, 1) := by decide +kernel
theorem e27_1 {d : Nat} {l0 l1 : Option Value} {s0 : Int32} {σ : ab_St} {Q : Option Value → ab_St → Prop} : Ev d 27 1 [l0, l1] [.int s0] σ Q = Ev d 27 2 [l0, l1] [.int 1, .int s0] σ Q := ev_A1 d27_1 rfl
theorem d27_2 : decode (ab_C 27) 2 = .ok (.if_icmp .lt 21, 3) := by decide +kernel
theorem e27_2 {d : Nat} {l0 l1 : Option Value} {s0 : Int32} {s1 : Int32} {σ : ab_St} {Q : Option Value → ab_St → Prop} : Ev d 27 2 [l0, l1] [.int s0, .int s1] σ Q = if s1 < s0 then Ev d 27 23 [l0, l1] [] σ Q else Ev d 27 5 [l0, l1] [] σ Q := ev_B (c := s1 < s0) d27_2 rfl rfl rfl rfl rfl
theorem d27_5 : decode (ab_C 27) 5 = .ok (.iload_n 1, 1) := by decide +kernel
theorem e27_5 {d : Nat} {l0 : Option Value} {x : Int32} {σ : ab_St} {Q : Option Value → ab_St → Prop} : Ev d 27 5 [l0, some (.int x)] [] σ Q = Ev d 27 6 [l0, some (.int x)] [.int x] σ Q := ev_A1 d27_5 rfl
theorem d27_6 : decode (ab_C 27) 6 = .ok (.bipush 9, 2) := by decide +kernel
theorem e27_6 {d : Nat} {l0 l1 : Option Value} {s0 : Int32} {σ : ab_St} {Q : Option Value → ab_St → Prop} : Ev d 27 6 [l0, l1] [.int s0] σ Q = Ev d 27 8 [l0, l1] [.int 9, .int s0] σ Q := ev_A1 d27_6 rfl
theorem d27_8 : decode (ab_C 27) 8 = .ok (.if_icmp .gt 15, 3) := by decide +kernel
theorem e27_8 {d : Nat} {l0 l1 : Option Value} {s0 : Int32} {s1 : Int32} {σ : ab_St} {Q : Option Value → ab_St → Prop} : Ev d 27 8 [l0, l1] [.int s0, .int s1] σ Q = if s0 < s1 then Ev d 27 23 [l0, l1] [] σ Q else Ev d 27 11 [l0, l1] [] σ Q := ev_B (c := s0 < s1) d27_8 rfl rfl rfl rfl rfl
theorem d27_11 : decode (ab_C 27) 11 = .ok (.aload_n 0, 1) := by decide +kernel
theorem e27_11 {d : Nat} {l1 : Option Value} {x : Nat} {σ : ab_St} {Q : Option Value → ab_St → Prop} : Ev d 27 11 [some (.ref x), l1] [] σ Q = Ev d 27 12 [some (.ref x), l1] [.ref x] σ Q := ev_A1 d27_11 rfl
theorem d27_12 : decode (ab_C 27) 12 = .ok (.getfield 12, 3) := by decide +kernel
theorem e27_12 {d : Nat} {l0 l1 : Option Value} {s0 : Nat} {σ : ab_St} {Q : Option Value → ab_St → Prop} : Ev d 27 12 [l0, l1] [.ref s0] σ Q = (ab_k s0 = 2 ∧ Ev d 27 15 [l0, l1] [.ref (ab_r s0 0)] σ Q) := ev_Hc (c := ab_k s0 = 2) d27_12 rfl rfl rfl rfl rfl rfl rfl rfl
theorem d27_15 : decode (ab_C 27) 15 = .ok (.getfield 48, 3) := by decide +kernel
theorem e27_15 {d : Nat} {l0 l1 : Option Value} {s0 : Nat} {σ : ab_St} {Q : Option Value → ab_St → Prop} : Ev d 27 15 [l0, l1] [.ref s0] σ Q = (ab_k s0 = 3 ∧ Ev d 27 18 [l0, l1] [.int (σ.1 s0 5)] σ Q) := ev_Hc (c := ab_k s0 = 3) d27_15 rfl rfl rfl rfl rfl rfl rfl rfl
theorem d27_18 : decode (ab_C 27) 18 = .ok (.bipush 8, 2) := by decide +kernel
theorem e27_18 {d : Nat} {l0 l1 : Option Value} {s0 : Int32} {σ : ab_St} {Q : Option Value → ab_St → Prop} : Ev d 27 18 [l0, l1] [.int s0] σ Q = Ev d 27 20 [l0, l1] [.int 8, .int s0] σ Q := ev_A1 d27_18 rfl
theorem d27_20 : decode (ab_C 27) 20 = .ok (.if_icmp .lt 5, 3) := by decide +kernel
theorem e27_20 {d : Nat} {l0 l1 : Option Value} {s0 : Int32} {s1 : Int32} {σ : ab_St} {Q : Option Value → ab_St → Prop} : Ev d 27 20 [l0, l1] [.int s0, .int s1] σ Q = if s1 < s0 then Ev d 27 25 [l0, l1] [] σ Q else Ev d 27 23 [l0, l1] [] σ Q := ev_B (c := s1 < s0) d27_20 rfl rfl rfl rfl rfl
theorem d27_23 : decode (ab_C 27) 23 = .ok (.iconst 0, 1) := by decide +kernel
theorem e27_23 {d : Nat} {l0 l1 : Option Value} {σ : ab_St} {Q : Option Value → ab_St → Prop} : Ev d 27 23 [l0, l1] [] σ Q = Ev d 27 24 [l0, l1] [.int 0] σ Q := ev_A1 d27_23 rfl
theorem d27_24 : decode (ab_C 27) 24 = .ok (.ireturn, 1) := by decide +kernel
theorem e27_24 {d : Nat} {l0 l1 : Option Value} {s0 : Int32} {σ : ab_St} {Q : Option Value → ab_St → Prop} : Ev d 27 24 [l0, l1] [.int s0] σ Q = ((s0 = 0 ∨ s0 = 1) ∧ Q (some (.int s0)) σ) := ev_Z d27_24 rfl
theorem d27_25 : decode (ab_C 27) 25 = .ok (.aload_n 0, 1) := by decide +kernel
theorem e27_25 {d : Nat} {l1 : Option Value} {x : Nat} {σ : ab_St} {Q : Option Value → ab_St → Prop} : Ev d 27 25 [some (.ref x), l1] [] σ Q = Ev d 27 26 [some (.ref x), l1] [.ref x] σ Q := ev_A1 d27_25 rfl
theorem d27_26 : decode (ab_C 27) 26 = .ok (.getfield 12, 3) := by decide +kernel
theorem e27_26 {d : Nat} {l0 l1 : Option Value} {s0 : Nat} {σ : ab_St} {Q : Option Value → ab_St → Prop} : Ev d 27 26 [l0, l1] [.ref s0] σ Q = (ab_k s0 = 2 ∧ Ev d 27 29 [l0, l1] [.ref (ab_r s0 0)] σ Q) := ev_Hc (c := ab_k s0 = 2) d27_26 rfl rfl rfl rfl rfl rfl rfl rfl
theorem d27_29 : decode (ab_C 27) 29 = .ok (.getfield 110, 3) := by decide +kernel
theorem e27_29 {d : Nat} {l0 l1 : Option Value} {s0 : Nat} {σ : ab_St} {Q : Option Value → ab_St → Prop} : Ev d 27 29 [l0, l1] [.ref s0] σ Q = (ab_k s0 = 3 ∧ Ev d 27 32 [l0, l1] [.ref (ab_r s0 1)] σ Q) := ev_Hc (c := ab_k s0 = 3) d27_29 rfl rfl rfl rfl rfl rfl rfl rfl
theorem d27_32 : decode (ab_C 27) 32 = .ok (.aload_n 0, 1) := by decide +kernel
theorem e27_32 {d : Nat} {l1 : Option Value} {x : Nat} {s0 : Nat} {σ : ab_St} {Q : Option Value → ab_St → Prop} : Ev d 27 32 [some (.ref x), l1] [.ref s0] σ Q = Ev d 27 33 [some (.ref x), l1] [.ref x, .ref s0] σ Q := ev_A1 d27_32 rfl
theorem d27_33 : decode (ab_C 27) 33 = .ok (.getfield 12, 3) := by decide +kernel
theorem e27_33 {d : Nat} {l0 l1 : Option Value} {s0 : Nat} {s1 : Nat} {σ : ab_St} {Q : Option Value → ab_St → Prop} : Ev d 27 33 [l0, l1] [.ref s0, .ref s1] σ Q = (ab_k s0 = 2 ∧ Ev d 27 36 [l0, l1] [.ref (ab_r s0 0), .ref s1] σ Q) := ev_Hc (c := ab_k s0 = 2) d27_33 rfl rfl rfl rfl rfl rfl rfl rfl
theorem d27_36 : decode (ab_C 27) 36 = .ok (.getfield 48, 3) := by decide +kernel
theorem e27_36 {d : Nat} {l0 l1 : Option Value} {s0 : Nat} {s1 : Nat} {σ : ab_St} {Q : Option Value → ab_St → Prop} : Ev d 27 36 [l0, l1] [.ref s0, .ref s1] σ Q = (ab_k s0 = 3 ∧ Ev d 27 39 [l0, l1] [.int (σ.1 s0 5), .ref s1] σ Q) := ev_Hc (c := ab_k s0 = 3) d27_36 rfl rfl rfl rfl rfl rfl rfl rfl
theorem d27_39 : decode (ab_C 27) 39 = .ok (.iload_n 1, 1) := by decide +kernel
theorem e27_39 {d : Nat} {l0 : Option Value} {x : Int32} {s0 : Int32} {s1 : Nat} {σ : ab_St} {Q : Option Value → ab_St → Prop} : Ev d 27 39 [l0, some (.int x)] [.int s0, .ref s1] σ Q = Ev d 27 40 [l0, some (.int x)] [.int x, .int s0, .ref s1] σ Q := ev_A1 d27_39 rfl
theorem d27_40 : decode (ab_C 27) 40 = .ok (.iastore, 1) := by decide +kernel
theorem e27_40 {d : Nat} {l0 l1 : Option Value} {s0 : Int32} {s1 : Int32} {s2 : Nat} {σ : ab_St} {Q : Option Value → ab_St → Prop} : Ev d 27 40 [l0, l1] [.int s0, .int s1, .ref s2] σ Q = ((ab_k s2 = 100 ∧ ab_in s1 (ab_n s2)) ∧ Ev d 27 41 [l0, l1] [] (ab_wI σ s2 (upd (σ.1 s2) s1.toNatClampNeg s0)) Q) := ev_Hc (c := ab_k s2 = 100 ∧ ab_in s1 (ab_n s2)) d27_40 rfl rfl rfl rfl rfl rfl rfl rfl
theorem d27_41 : decode (ab_C 27) 41 = .ok (.aload_n 0, 1) := by decide +kernel
theorem e27_41 {d : Nat} {l1 : Option Value} {x : Nat} {σ : ab_St} {Q : Option Value → ab_St → Prop} : Ev d 27 41 [some (.ref x), l1] [] σ Q = Ev d 27 42 [some (.ref x), l1] [.ref x] σ Q := ev_A1 d27_41 rfl
theorem d27_42 : decode (ab_C 27) 42 = .ok (.bipush 7, 2) := by decide +kernel
theorem e27_42 {d : Nat} {l0 l1 : Option Value} {s0 : Nat} {σ : ab_St} {Q : Option Value → ab_St → Prop} : Ev d 27 42 [l0, l1] [.ref s0] σ Q = Ev d 27 44 [l0, l1] [.int 7, .ref s0] σ Q := ev_A1 d27_42 rfl
theorem d27_44 : decode (ab_C 27) 44 = .ok (.putfield 42, 3) := by decide +kernel
theorem e27_44 {d : Nat} {l0 l1 : Option Value} {s0 : Int32} {s1 : Nat} {σ : ab_St} {Q : Option Value → ab_St → Prop} : Ev d 27 44 [l0, l1] [.int s0, .ref s1] σ Q = (ab_k s1 = 2 ∧ Ev d 27 47 [l0, l1] [] (ab_wI σ s1 (upd (σ.1 s1) 2 s0)) Q) := ev_Hc (c := ab_k s1 = 2) d27_44 rfl rfl rfl rfl rfl rfl rfl rfl
theorem d27_47 : decode (ab_C 27) 47 = .ok (.iconst 1, 1) := by decide +kernel
theorem e27_47 {d : Nat} {l0 l1 : Option Value} {σ : ab_St} {Q : Option Value → ab_St → Prop} : Ev d 27 47 [l0, l1] [] σ Q = Ev d 27 48 [l0, l1] [.int 1] σ Q := ev_A1 d27_47 rfl
theorem d27_48 : decode (ab_C 27) 48 = .ok (.ireturn, 1) := by decide +kernel
theorem e27_48 {d : Nat} {l0 l1 : Option Value} {s0 : Int32} {σ : ab_St} {Q : Option Value → ab_St → Prop} : Ev d 27 48 [l0, l1] [.int s0] σ Q = ((s0 = 0 ∨ s0 = 1) ∧ Q (some (.int s0)) σ) := ev_Z d27_48 rfl
/-! SaidLeast$Reader.takesWorth(I)Z -/
theorem d28_0 : decode (ab_C 28) 0 = .ok (.iload_n 1, 1) := by decide +kernel
theorem e28_0 {d : Nat} {l0 : Option Value} {x : Int32} {σ : ab_St} {Q : Option Value → ab_St → Prop} : Ev d 28 0 [l0, some (.int x)] [] σ Q = Ev d 28 1 [l0, some (.int x)] [.int x] σ Q := ev_A1 d28_0 rfl
theorem d28_1 : decode (ab_C 28) 1 = .ok (.ifCond .lt 21, 3) := by decide +kernel
theorem e28_1 {d : Nat} {l0 l1 : Option Value} {s0 : Int32} {σ : ab_St} {Q : Option Value → ab_St → Prop} : Ev d 28 1 [l0, l1] [.int s0] σ Q = if s0 < 0 then Ev d 28 22 [l0, l1] [] σ Q else Ev d 28 4 [l0, l1] [] σ Q := ev_B (c := s0 < 0) d28_1 rfl rfl rfl rfl rfl
theorem d28_4 : decode (ab_C 28) 4 = .ok (.iload_n 1, 1) := by decide +kernel
theorem e28_4 {d : Nat} {l0 : Option Value} {x : Int32} {σ : ab_St} {Q : Option Value → ab_St → Prop} : Ev d 28 4 [l0, some (.int x)] [] σ Q = Ev d 28 5 [l0, some (.int x)] [.int x] σ Q := ev_A1 d28_4 rfl
theorem d28_5 : decode (ab_C 28) 5 = .ok (.bipush 9, 2) := by decide +kernel
theorem e28_5 {d : Nat} {l0 l1 : Option Value} {s0 : Int32} {σ : ab_St} {Q : Option Value → ab_St → Prop} : Ev d 28 5 [l0, l1] [.int s0] σ Q = Ev d 28 7 [l0, l1] [.int 9, .int s0] σ Q := ev_A1 d28_5 rfl
theorem d28_7 : decode (ab_C 28) 7 = .ok (.if_icmp .gt 15, 3) := by decide +kernel
theorem e28_7 {d : Nat} {l0 l1 : Option Value} {s0 : Int32} {s1 : Int32} {σ : ab_St} {Q : Option Value → ab_St → Prop} : Ev d 28 7 [l0, l1] [.int s0, .int s1] σ Q = if s0 < s1 then Ev d 28 22 [l0, l1] [] σ Q else Ev d 28 10 [l0, l1] [] σ Q := ev_B (c := s0 < s1) d28_7 rfl rfl rfl rfl rfl
theorem d28_10 : decode (ab_C 28) 10 = .ok (.aload_n 0, 1) := by decide +kernel
theorem e28_10 {d : Nat} {l1 : Option Value} {x : Nat} {σ : ab_St} {Q : Option Value → ab_St → Prop} : Ev d 28 10 [some (.ref x), l1] [] σ Q = Ev d 28 11 [some (.ref x), l1] [.ref x] σ Q := ev_A1 d28_10 rfl
theorem d28_11 : decode (ab_C 28) 11 = .ok (.getfield 12, 3) := by decide +kernel
theorem e28_11 {d : Nat} {l0 l1 : Option Value} {s0 : Nat} {σ : ab_St} {Q : Option Value → ab_St → Prop} : Ev d 28 11 [l0, l1] [.ref s0] σ Q = (ab_k s0 = 2 ∧ Ev d 28 14 [l0, l1] [.ref (ab_r s0 0)] σ Q) := ev_Hc (c := ab_k s0 = 2) d28_11 rfl rfl rfl rfl rfl rfl rfl rfl
theorem d28_14 : decode (ab_C 28) 14 = .ok (.getfield 48, 3) := by decide +kernel
theorem e28_14 {d : Nat} {l0 l1 : Option Value} {s0 : Nat} {σ : ab_St} {Q : Option Value → ab_St → Prop} : Ev d 28 14 [l0, l1] [.ref s0] σ Q = (ab_k s0 = 3 ∧ Ev d 28 17 [l0, l1] [.int (σ.1 s0 5)] σ Q) := ev_Hc (c := ab_k s0 = 3) d28_14 rfl rfl rfl rfl rfl rfl rfl rfl
theorem d28_17 : decode (ab_C 28) 17 = .ok (.bipush 8, 2) := by decide +kernel
theorem e28_17 {d : Nat} {l0 l1 : Option Value} {s0 : Int32} {σ : ab_St} {Q : Option Value → ab_St → Prop} : Ev d 28 17 [l0, l1] [.int s0] σ Q = Ev d 28 19 [l0, l1] [.int 8, .int s0] σ Q := ev_A1 d28_17 rfl
theorem d28_19 : decode (ab_C 28) 19 = .ok (.if_icmp .lt 5, 3) := by decide +kernel
theorem e28_19 {d : Nat} {l0 l1 : Option Value} {s0 : Int32} {s1 : Int32} {σ : ab_St} {Q : Option Value → ab_St → Prop} : Ev d 28 19 [l0, l1] [.int s0, .int s1] σ Q = if s1 < s0 then Ev d 28 24 [l0, l1] [] σ Q else Ev d 28 22 [l0, l1] [] σ Q := ev_B (c := s1 < s0) d28_19 rfl rfl rfl rfl rfl
theorem d28_22 : decode (ab_C 28) 22 = .ok (.iconst 0, 1) := by decide +kernel
theorem e28_22 {d : Nat} {l0 l1 : Option Value} {σ : ab_St} {Q : Option Value → ab_St → Prop} : Ev d 28 22 [l0, l1] [] σ Q = Ev d 28 23 [l0, l1] [.int 0] σ Q := ev_A1 d28_22 rfl
theorem d28_23 : decode (ab_C 28) 23 = .ok (.ireturn, 1) := by decide +kernel
theorem e28_23 {d : Nat} {l0 l1 : Option Value} {s0 : Int32} {σ : ab_St} {Q : Option Value → ab_St → Prop} : Ev d 28 23 [l0, l1] [.int s0] σ Q = ((s0 = 0 ∨ s0 = 1) ∧ Q (some (.int s0)) σ) := ev_Z d28_23 rfl
theorem d28_24 : decode (ab_C 28) 24 = .ok (.aload_n 0, 1) := by decide +kernel
theorem e28_24 {d : Nat} {l1 : Option Value} {x : Nat} {σ : ab_St} {Q : Option Value → ab_St → Prop} : Ev d 28 24 [some (.ref x), l1] [] σ Q = Ev d 28 25 [some (.ref x), l1] [.ref x] σ Q := ev_A1 d28_24 rfl
theorem d28_25 : decode (ab_C 28) 25 = .ok (.getfield 12, 3) := by decide +kernel
theorem e28_25 {d : Nat} {l0 l1 : Option Value} {s0 : Nat} {σ : ab_St} {Q : Option Value → ab_St → Prop} : Ev d 28 25 [l0, l1] [.ref s0] σ Q = (ab_k s0 = 2 ∧ Ev d 28 28 [l0, l1] [.ref (ab_r s0 0)] σ Q) := ev_Hc (c := ab_k s0 = 2) d28_25 rfl rfl rfl rfl rfl rfl rfl rfl
theorem d28_28 : decode (ab_C 28) 28 = .ok (.getfield 111, 3) := by decide +kernel
theorem e28_28 {d : Nat} {l0 l1 : Option Value} {s0 : Nat} {σ : ab_St} {Q : Option Value → ab_St → Prop} : Ev d 28 28 [l0, l1] [.ref s0] σ Q = (ab_k s0 = 3 ∧ Ev d 28 31 [l0, l1] [.ref (ab_r s0 2)] σ Q) := ev_Hc (c := ab_k s0 = 3) d28_28 rfl rfl rfl rfl rfl rfl rfl rfl
theorem d28_31 : decode (ab_C 28) 31 = .ok (.aload_n 0, 1) := by decide +kernel
theorem e28_31 {d : Nat} {l1 : Option Value} {x : Nat} {s0 : Nat} {σ : ab_St} {Q : Option Value → ab_St → Prop} : Ev d 28 31 [some (.ref x), l1] [.ref s0] σ Q = Ev d 28 32 [some (.ref x), l1] [.ref x, .ref s0] σ Q := ev_A1 d28_31 rfl
theorem d28_32 : decode (ab_C 28) 32 = .ok (.getfield 12, 3) := by decide +kernel
theorem e28_32 {d : Nat} {l0 l1 : Option Value} {s0 : Nat} {s1 : Nat} {σ : ab_St} {Q : Option Value → ab_St → Prop} : Ev d 28 32 [l0, l1] [.ref s0, .ref s1] σ Q = (ab_k s0 = 2 ∧ Ev d 28 35 [l0, l1] [.ref (ab_r s0 0), .ref s1] σ Q) := ev_Hc (c := ab_k s0 = 2) d28_32 rfl rfl rfl rfl rfl rfl rfl rfl
theorem d28_35 : decode (ab_C 28) 35 = .ok (.getfield 48, 3) := by decide +kernel
theorem e28_35 {d : Nat} {l0 l1 : Option Value} {s0 : Nat} {s1 : Nat} {σ : ab_St} {Q : Option Value → ab_St → Prop} : Ev d 28 35 [l0, l1] [.ref s0, .ref s1] σ Q = (ab_k s0 = 3 ∧ Ev d 28 38 [l0, l1] [.int (σ.1 s0 5), .ref s1] σ Q) := ev_Hc (c := ab_k s0 = 3) d28_35 rfl rfl rfl rfl rfl rfl rfl rfl
theorem d28_38 : decode (ab_C 28) 38 = .ok (.iload_n 1, 1) := by decide +kernel
theorem e28_38 {d : Nat} {l0 : Option Value} {x : Int32} {s0 : Int32} {s1 : Nat} {σ : ab_St} {Q : Option Value → ab_St → Prop} : Ev d 28 38 [l0, some (.int x)] [.int s0, .ref s1] σ Q = Ev d 28 39 [l0, some (.int x)] [.int x, .int s0, .ref s1] σ Q := ev_A1 d28_38 rfl
theorem d28_39 : decode (ab_C 28) 39 = .ok (.iastore, 1) := by decide +kernel
theorem e28_39 {d : Nat} {l0 l1 : Option Value} {s0 : Int32} {s1 : Int32} {s2 : Nat} {σ : ab_St} {Q : Option Value → ab_St → Prop} : Ev d 28 39 [l0, l1] [.int s0, .int s1, .ref s2] σ Q = ((ab_k s2 = 100 ∧ ab_in s1 (ab_n s2)) ∧ Ev d 28 40 [l0, l1] [] (ab_wI σ s2 (upd (σ.1 s2) s1.toNatClampNeg s0)) Q) := ev_Hc (c := ab_k s2 = 100 ∧ ab_in s1 (ab_n s2)) d28_39 rfl rfl rfl rfl rfl rfl rfl rfl
theorem d28_40 : decode (ab_C 28) 40 = .ok (.aload_n 0, 1) := by decide +kernel
theorem e28_40 {d : Nat} {l1 : Option Value} {x : Nat} {σ : ab_St} {Q : Option Value → ab_St → Prop} : Ev d 28 40 [some (.ref x), l1] [] σ Q = Ev d 28 41 [some (.ref x), l1] [.ref x] σ Q := ev_A1 d28_40 rfl
theorem d28_41 : decode (ab_C 28) 41 = .ok (.bipush 8, 2) := by decide +kernel
theorem e28_41 {d : Nat} {l0 l1 : Option Value} {s0 : Nat} {σ : ab_St} {Q : Option Value → ab_St → Prop} : Ev d 28 41 [l0, l1] [.ref s0] σ Q = Ev d 28 43 [l0, l1] [.int 8, .ref s0] σ Q := ev_A1 d28_41 rfl
theorem d28_43 : decode (ab_C 28) 43 = .ok (.putfield 42, 3) := by decide +kernel
theorem e28_43 {d : Nat} {l0 l1 : Option Value} {s0 : Int32} {s1 : Nat} {σ : ab_St} {Q : Option Value → ab_St → Prop} : Ev d 28 43 [l0, l1] [.int s0, .ref s1] σ Q = (ab_k s1 = 2 ∧ Ev d 28 46 [l0, l1] [] (ab_wI σ s1 (upd (σ.1 s1) 2 s0)) Q) := ev_Hc (c := ab_k s1 = 2) d28_43 rfl rfl rfl rfl rfl rfl rfl rfl
theorem d28_46 : decode (ab_C 28) 46 = .ok (.iconst 1, 1) := by decide +kernel
theorem e28_46 {d : Nat} {l0 l1 : Option Value} {σ : ab_St} {Q : Option Value → ab_St → Prop} : Ev d 28 46 [l0, l1] [] σ Q = Ev d 28 47 [l0, l1] [.int 1] σ Q := ev_A1 d28_46 rfl
theorem d28_47 : decode (ab_C 28) 47 = .ok (.ireturn, 1) := by decide +kernel
theorem e28_47 {d : Nat} {l0 l1 : Option Value} {s0 : Int32} {σ : ab_St} {Q : Option Value → ab_St → Prop} : Ev d 28 47 [l0, l1] [.int s0] σ Q = ((s0 = 0 ∨ s0 = 1) ∧ Q (some (.int s0)) σ) := ev_Z d28_47 rfl
/-! SaidLeast$Reader.closesSaying(I)Z -/
theorem d29_0 : decode (ab_C 29) 0 = .ok (.aload_n 0, 1) := by decide +kernel
theorem e29_0 {d : Nat} {l1 : Option Value} {x : Nat} {σ : ab_St} {Q : Option Value → ab_St → Prop} : Ev d 29 0 [some (.ref x), l1] [] σ Q = Ev d 29 1 [some (.ref x), l1] [.ref x] σ Q := ev_A1 d29_0 rfl
theorem d29_1 : decode (ab_C 29) 1 = .ok (.getfield 12, 3) := by decide +kernel
theorem e29_1 {d : Nat} {l0 l1 : Option Value} {s0 : Nat} {σ : ab_St} {Q : Option Value → ab_St → Prop} : Ev d 29 1 [l0, l1] [.ref s0] σ Q = (ab_k s0 = 2 ∧ Ev d 29 4 [l0, l1] [.ref (ab_r s0 0)] σ Q) := ev_Hc (c := ab_k s0 = 2) d29_1 rfl rfl rfl rfl rfl rfl rfl rfl
theorem d29_4 : decode (ab_C 29) 4 = .ok (.getfield 48, 3) := by decide +kernel
theorem e29_4 {d : Nat} {l0 l1 : Option Value} {s0 : Nat} {σ : ab_St} {Q : Option Value → ab_St → Prop} : Ev d 29 4 [l0, l1] [.ref s0] σ Q = (ab_k s0 = 3 ∧ Ev d 29 7 [l0, l1] [.int (σ.1 s0 5)] σ Q) := ev_Hc (c := ab_k s0 = 3) d29_4 rfl rfl rfl rfl rfl rfl rfl rfl
theorem d29_7 : decode (ab_C 29) 7 = .ok (.bipush 8, 2) := by decide +kernel
theorem e29_7 {d : Nat} {l0 l1 : Option Value} {s0 : Int32} {σ : ab_St} {Q : Option Value → ab_St → Prop} : Ev d 29 7 [l0, l1] [.int s0] σ Q = Ev d 29 9 [l0, l1] [.int 8, .int s0] σ Q := ev_A1 d29_7 rfl
theorem d29_9 : decode (ab_C 29) 9 = .ok (.if_icmp .lt 5, 3) := by decide +kernel
theorem e29_9 {d : Nat} {l0 l1 : Option Value} {s0 : Int32} {s1 : Int32} {σ : ab_St} {Q : Option Value → ab_St → Prop} : Ev d 29 9 [l0, l1] [.int s0, .int s1] σ Q = if s1 < s0 then Ev d 29 14 [l0, l1] [] σ Q else Ev d 29 12 [l0, l1] [] σ Q := ev_B (c := s1 < s0) d29_9 rfl rfl rfl rfl rfl
theorem d29_12 : decode (ab_C 29) 12 = .ok (.iconst 0, 1) := by decide +kernel
theorem e29_12 {d : Nat} {l0 l1 : Option Value} {σ : ab_St} {Q : Option Value → ab_St → Prop} : Ev d 29 12 [l0, l1] [] σ Q = Ev d 29 13 [l0, l1] [.int 0] σ Q := ev_A1 d29_12 rfl
theorem d29_13 : decode (ab_C 29) 13 = .ok (.ireturn, 1) := by decide +kernel
theorem e29_13 {d : Nat} {l0 l1 : Option Value} {s0 : Int32} {σ : ab_St} {Q : Option Value → ab_St → Prop} : Ev d 29 13 [l0, l1] [.int s0] σ Q = ((s0 = 0 ∨ s0 = 1) ∧ Q (some (.int s0)) σ) := ev_Z d29_13 rfl
theorem d29_14 : decode (ab_C 29) 14 = .ok (.aload_n 0, 1) := by decide +kernel
theorem e29_14 {d : Nat} {l1 : Option Value} {x : Nat} {σ : ab_St} {Q : Option Value → ab_St → Prop} : Ev d 29 14 [some (.ref x), l1] [] σ Q = Ev d 29 15 [some (.ref x), l1] [.ref x] σ Q := ev_A1 d29_14 rfl
theorem d29_15 : decode (ab_C 29) 15 = .ok (.getfield 12, 3) := by decide +kernel
theorem e29_15 {d : Nat} {l0 l1 : Option Value} {s0 : Nat} {σ : ab_St} {Q : Option Value → ab_St → Prop} : Ev d 29 15 [l0, l1] [.ref s0] σ Q = (ab_k s0 = 2 ∧ Ev d 29 18 [l0, l1] [.ref (ab_r s0 0)] σ Q) := ev_Hc (c := ab_k s0 = 2) d29_15 rfl rfl rfl rfl rfl rfl rfl rfl
theorem d29_18 : decode (ab_C 29) 18 = .ok (.getfield 121, 3) := by decide +kernel
theorem e29_18 {d : Nat} {l0 l1 : Option Value} {s0 : Nat} {σ : ab_St} {Q : Option Value → ab_St → Prop} : Ev d 29 18 [l0, l1] [.ref s0] σ Q = (ab_k s0 = 3 ∧ Ev d 29 21 [l0, l1] [.ref (ab_r s0 3)] σ Q) := ev_Hc (c := ab_k s0 = 3) d29_18 rfl rfl rfl rfl rfl rfl rfl rfl
theorem d29_21 : decode (ab_C 29) 21 = .ok (.aload_n 0, 1) := by decide +kernel
theorem e29_21 {d : Nat} {l1 : Option Value} {x : Nat} {s0 : Nat} {σ : ab_St} {Q : Option Value → ab_St → Prop} : Ev d 29 21 [some (.ref x), l1] [.ref s0] σ Q = Ev d 29 22 [some (.ref x), l1] [.ref x, .ref s0] σ Q := ev_A1 d29_21 rfl
theorem d29_22 : decode (ab_C 29) 22 = .ok (.getfield 12, 3) := by decide +kernel
theorem e29_22 {d : Nat} {l0 l1 : Option Value} {s0 : Nat} {s1 : Nat} {σ : ab_St} {Q : Option Value → ab_St → Prop} : Ev d 29 22 [l0, l1] [.ref s0, .ref s1] σ Q = (ab_k s0 = 2 ∧ Ev d 29 25 [l0, l1] [.ref (ab_r s0 0), .ref s1] σ Q) := ev_Hc (c := ab_k s0 = 2) d29_22 rfl rfl rfl rfl rfl rfl rfl rfl
theorem d29_25 : decode (ab_C 29) 25 = .ok (.getfield 48, 3) := by decide +kernel
theorem e29_25 {d : Nat} {l0 l1 : Option Value} {s0 : Nat} {s1 : Nat} {σ : ab_St} {Q : Option Value → ab_St → Prop} : Ev d 29 25 [l0, l1] [.ref s0, .ref s1] σ Q = (ab_k s0 = 3 ∧ Ev d 29 28 [l0, l1] [.int (σ.1 s0 5), .ref s1] σ Q) := ev_Hc (c := ab_k s0 = 3) d29_25 rfl rfl rfl rfl rfl rfl rfl rfl
theorem d29_28 : decode (ab_C 29) 28 = .ok (.iload_n 1, 1) := by decide +kernel
theorem e29_28 {d : Nat} {l0 : Option Value} {x : Int32} {s0 : Int32} {s1 : Nat} {σ : ab_St} {Q : Option Value → ab_St → Prop} : Ev d 29 28 [l0, some (.int x)] [.int s0, .ref s1] σ Q = Ev d 29 29 [l0, some (.int x)] [.int x, .int s0, .ref s1] σ Q := ev_A1 d29_28 rfl
theorem d29_29 : decode (ab_C 29) 29 = .ok (.iastore, 1) := by decide +kernel
theorem e29_29 {d : Nat} {l0 l1 : Option Value} {s0 : Int32} {s1 : Int32} {s2 : Nat} {σ : ab_St} {Q : Option Value → ab_St → Prop} : Ev d 29 29 [l0, l1] [.int s0, .int s1, .ref s2] σ Q = ((ab_k s2 = 100 ∧ ab_in s1 (ab_n s2)) ∧ Ev d 29 30 [l0, l1] [] (ab_wI σ s2 (upd (σ.1 s2) s1.toNatClampNeg s0)) Q) := ev_Hc (c := ab_k s2 = 100 ∧ ab_in s1 (ab_n s2)) d29_29 rfl rfl rfl rfl rfl rfl rfl rfl
theorem d29_30 : decode (ab_C 29) 30 = .ok (.aload_n 0, 1) := by decide +kernel
theorem e29_30 {d : Nat} {l1 : Option Value} {x : Nat} {σ : ab_St} {Q : Option Value → ab_St → Prop} : Ev d 29 30 [some (.ref x), l1] [] σ Q = Ev d 29 31 [some (.ref x), l1] [.ref x] σ Q := ev_A1 d29_30 rfl
theorem d29_31 : decode (ab_C 29) 31 = .ok (.getfield 12, 3) := by decide +kernel
theorem e29_31 {d : Nat} {l0 l1 : Option Value} {s0 : Nat} {σ : ab_St} {Q : Option Value → ab_St → Prop} : Ev d 29 31 [l0, l1] [.ref s0] σ Q = (ab_k s0 = 2 ∧ Ev d 29 34 [l0, l1] [.ref (ab_r s0 0)] σ Q) := ev_Hc (c := ab_k s0 = 2) d29_31 rfl rfl rfl rfl rfl rfl rfl rfl
theorem d29_34 : decode (ab_C 29) 34 = .ok (.dup, 1) := by decide +kernel
theorem e29_34 {d : Nat} {l0 l1 : Option Value} {s0 : Nat} {σ : ab_St} {Q : Option Value → ab_St → Prop} : Ev d 29 34 [l0, l1] [.ref s0] σ Q = Ev d 29 35 [l0, l1] [.ref s0, .ref s0] σ Q := ev_A1 d29_34 rfl
theorem d29_35 : decode (ab_C 29) 35 = .ok (.getfield 48, 3) := by decide +kernel
theorem e29_35 {d : Nat} {l0 l1 : Option Value} {s0 : Nat} {s1 : Nat} {σ : ab_St} {Q : Option Value → ab_St → Prop} : Ev d 29 35 [l0, l1] [.ref s0, .ref s1] σ Q = (ab_k s0 = 3 ∧ Ev d 29 38 [l0, l1] [.int (σ.1 s0 5), .ref s1] σ Q) := ev_Hc (c := ab_k s0 = 3) d29_35 rfl rfl rfl rfl rfl rfl rfl rfl
theorem d29_38 : decode (ab_C 29) 38 = .ok (.iconst 1, 1) := by decide +kernel
theorem e29_38 {d : Nat} {l0 l1 : Option Value} {s0 : Int32} {s1 : Nat} {σ : ab_St} {Q : Option Value → ab_St → Prop} : Ev d 29 38 [l0, l1] [.int s0, .ref s1] σ Q = Ev d 29 39 [l0, l1] [.int 1, .int s0, .ref s1] σ Q := ev_A1 d29_38 rfl
theorem d29_39 : decode (ab_C 29) 39 = .ok (.iadd, 1) := by decide +kernel
theorem e29_39 {d : Nat} {l0 l1 : Option Value} {s0 : Int32} {s1 : Int32} {s2 : Nat} {σ : ab_St} {Q : Option Value → ab_St → Prop} : Ev d 29 39 [l0, l1] [.int s0, .int s1, .ref s2] σ Q = Ev d 29 40 [l0, l1] [.int (s1 + s0), .ref s2] σ Q := ev_A2 d29_39 rfl rfl
theorem d29_40 : decode (ab_C 29) 40 = .ok (.putfield 48, 3) := by decide +kernel
theorem e29_40 {d : Nat} {l0 l1 : Option Value} {s0 : Int32} {s1 : Nat} {σ : ab_St} {Q : Option Value → ab_St → Prop} : Ev d 29 40 [l0, l1] [.int s0, .ref s1] σ Q = (ab_k s1 = 3 ∧ Ev d 29 43 [l0, l1] [] (ab_wI σ s1 (upd (σ.1 s1) 5 s0)) Q) := ev_Hc (c := ab_k s1 = 3) d29_40 rfl rfl rfl rfl rfl rfl rfl rfl
theorem d29_43 : decode (ab_C 29) 43 = .ok (.aload_n 0, 1) := by decide +kernel
theorem e29_43 {d : Nat} {l1 : Option Value} {x : Nat} {σ : ab_St} {Q : Option Value → ab_St → Prop} : Ev d 29 43 [some (.ref x), l1] [] σ Q = Ev d 29 44 [some (.ref x), l1] [.ref x] σ Q := ev_A1 d29_43 rfl
theorem d29_44 : decode (ab_C 29) 44 = .ok (.iconst 2, 1) := by decide +kernel
theorem e29_44 {d : Nat} {l0 l1 : Option Value} {s0 : Nat} {σ : ab_St} {Q : Option Value → ab_St → Prop} : Ev d 29 44 [l0, l1] [.ref s0] σ Q = Ev d 29 45 [l0, l1] [.int 2, .ref s0] σ Q := ev_A1 d29_44 rfl
theorem d29_45 : decode (ab_C 29) 45 = .ok (.putfield 42, 3) := by decide +kernel
theorem e29_45 {d : Nat} {l0 l1 : Option Value} {s0 : Int32} {s1 : Nat} {σ : ab_St} {Q : Option Value → ab_St → Prop} : Ev d 29 45 [l0, l1] [.int s0, .ref s1] σ Q = (ab_k s1 = 2 ∧ Ev d 29 48 [l0, l1] [] (ab_wI σ s1 (upd (σ.1 s1) 2 s0)) Q) := ev_Hc (c := ab_k s1 = 2) d29_45 rfl rfl rfl rfl rfl rfl rfl rfl
theorem d29_48 : decode (ab_C 29) 48 = .ok (.iconst 1, 1) := by decide +kernel
theorem e29_48 {d : Nat} {l0 l1 : Option Value} {σ : ab_St} {Q : Option Value → ab_St → Prop} : Ev d 29 48 [l0, l1] [] σ Q = Ev d 29 49 [l0, l1] [.int 1] σ Q := ev_A1 d29_48 rfl
theorem d29_49 : decode (ab_C 29) 49 = .ok (.ireturn, 1) := by decide +kernel
theorem e29_49 {d : Nat} {l0 l1 : Option Value} {s0 : Int32} {σ : ab_St} {Q : Option Value → ab_St → Prop} : Ev d 29 49 [l0, l1] [.int s0] σ Q = ((s0 = 0 ∨ s0 = 1) ∧ Q (some (.int s0)) σ) := ev_Z d29_49 rfl
/-! SaidLeast$Reader.takesAnswered(I)Z -/
theorem d30_0 : decode (ab_C 30) 0 = .ok (.aload_n 0, 1) := by decide +kernel
theorem e30_0 {d : Nat} {l1 : Option Value} {x : Nat} {σ : ab_St} {Q : Option Value → ab_St → Prop} : Ev d 30 0 [some (.ref x), l1] [] σ Q = Ev d 30 1 [some (.ref x), l1] [.ref x] σ Q := ev_A1 d30_0 rfl
theorem d30_1 : decode (ab_C 30) 1 = .ok (.getfield 12, 3) := by decide +kernel
theorem e30_1 {d : Nat} {l0 l1 : Option Value} {s0 : Nat} {σ : ab_St} {Q : Option Value → ab_St → Prop} : Ev d 30 1 [l0, l1] [.ref s0] σ Q = (ab_k s0 = 2 ∧ Ev d 30 4 [l0, l1] [.ref (ab_r s0 0)] σ Q) := ev_Hc (c := ab_k s0 = 2) d30_1 rfl rfl rfl rfl rfl rfl rfl rfl
theorem d30_4 : decode (ab_C 30) 4 = .ok (.iload_n 1, 1) := by decide +kernel
theorem e30_4 {d : Nat} {l0 : Option Value} {x : Int32} {s0 : Nat} {σ : ab_St} {Q : Option Value → ab_St → Prop} : Ev d 30 4 [l0, some (.int x)] [.ref s0] σ Q = Ev d 30 5 [l0, some (.int x)] [.int x, .ref s0] σ Q := ev_A1 d30_4 rfl
theorem d30_5 : decode (ab_C 30) 5 = .ok (.invokevirtual 114, 3) := by decide +kernel
theorem e30_5 {d : Nat} {l0 l1 : Option Value} {s0 : Int32} {s1 : Nat} {σ : ab_St} {Q : Option Value → ab_St → Prop} : Ev (d + 1) 30 5 [l0, l1] [.int s0, .ref s1] σ Q = (ab_k s1 = 3 ∧ Ev d 31 0 [some (.ref s1), some (.int s0)] [] σ (fun r σ2 => Ev (d + 1) 30 8 [l0, l1] (r.toList ++ []) σ2 Q)) := ev_KV (b := s1) (ls := [l0, l1]) (st := [.int s0, .ref s1]) (as := [.int s0]) (rest := []) d30_5 rfl rfl rfl (Nat.le_of_ble_eq_true rfl) (Nat.le_of_ble_eq_true rfl) (Nat.le_of_ble_eq_true rfl) rfl rfl rfl rfl rfl rfl rfl
theorem d30_8 : decode (ab_C 30) 8 = .ok (.ifCond .eq 14, 3) := by decide +kernel
theorem e30_8 {d : Nat} {l0 l1 : Option Value} {s0 : Int32} {σ : ab_St} {Q : Option Value → ab_St → Prop} : Ev d 30 8 [l0, l1] [.int s0] σ Q = if s0 = 0 then Ev d 30 22 [l0, l1] [] σ Q else Ev d 30 11 [l0, l1] [] σ Q := ev_B (c := s0 = 0) d30_8 rfl rfl rfl rfl rfl
theorem d30_11 : decode (ab_C 30) 11 = .ok (.aload_n 0, 1) := by decide +kernel
theorem e30_11 {d : Nat} {l1 : Option Value} {x : Nat} {σ : ab_St} {Q : Option Value → ab_St → Prop} : Ev d 30 11 [some (.ref x), l1] [] σ Q = Ev d 30 12 [some (.ref x), l1] [.ref x] σ Q := ev_A1 d30_11 rfl
theorem d30_12 : decode (ab_C 30) 12 = .ok (.getfield 67, 3) := by decide +kernel
theorem e30_12 {d : Nat} {l0 l1 : Option Value} {s0 : Nat} {σ : ab_St} {Q : Option Value → ab_St → Prop} : Ev d 30 12 [l0, l1] [.ref s0] σ Q = (ab_k s0 = 2 ∧ Ev d 30 15 [l0, l1] [.int (σ.1 s0 3)] σ Q) := ev_Hc (c := ab_k s0 = 2) d30_12 rfl rfl rfl rfl rfl rfl rfl rfl
theorem d30_15 : decode (ab_C 30) 15 = .ok (.iload_n 1, 1) := by decide +kernel
theorem e30_15 {d : Nat} {l0 : Option Value} {x : Int32} {s0 : Int32} {σ : ab_St} {Q : Option Value → ab_St → Prop} : Ev d 30 15 [l0, some (.int x)] [.int s0] σ Q = Ev d 30 16 [l0, some (.int x)] [.int x, .int s0] σ Q := ev_A1 d30_15 rfl
theorem d30_16 : decode (ab_C 30) 16 = .ok (.invokestatic 117, 3) := by decide +kernel
theorem e30_16 {d : Nat} {l0 l1 : Option Value} {s0 : Int32} {s1 : Int32} {σ : ab_St} {Q : Option Value → ab_St → Prop} : Ev (d + 1) 30 16 [l0, l1] [.int s0, .int s1] σ Q = Ev d 32 0 [some (.int s1), some (.int s0)] [] σ (fun r σ2 => Ev (d + 1) 30 19 [l0, l1] (r.toList ++ []) σ2 Q) := ev_K0 (y := 32) (ls := [l0, l1]) (st := [.int s0, .int s1]) (as := [.int s1, .int s0]) (rest := []) d30_16 rfl rfl rfl rfl rfl rfl rfl rfl
theorem d30_19 : decode (ab_C 30) 19 = .ok (.ifCond .eq 5, 3) := by decide +kernel
theorem e30_19 {d : Nat} {l0 l1 : Option Value} {s0 : Int32} {σ : ab_St} {Q : Option Value → ab_St → Prop} : Ev d 30 19 [l0, l1] [.int s0] σ Q = if s0 = 0 then Ev d 30 24 [l0, l1] [] σ Q else Ev d 30 22 [l0, l1] [] σ Q := ev_B (c := s0 = 0) d30_19 rfl rfl rfl rfl rfl
theorem d30_22 : decode (ab_C 30) 22 = .ok (.iconst 0, 1) := by decide +kernel
theorem e30_22 {d : Nat} {l0 l1 : Option Value} {σ : ab_St} {Q : Option Value → ab_St → Prop} : Ev d 30 22 [l0, l1] [] σ Q = Ev d 30 23 [l0, l1] [.int 0] σ Q := ev_A1 d30_22 rfl
theorem d30_23 : decode (ab_C 30) 23 = .ok (.ireturn, 1) := by decide +kernel
theorem e30_23 {d : Nat} {l0 l1 : Option Value} {s0 : Int32} {σ : ab_St} {Q : Option Value → ab_St → Prop} : Ev d 30 23 [l0, l1] [.int s0] σ Q = ((s0 = 0 ∨ s0 = 1) ∧ Q (some (.int s0)) σ) := ev_Z d30_23 rfl
theorem d30_24 : decode (ab_C 30) 24 = .ok (.aload_n 0, 1) := by decide +kernel
theorem e30_24 {d : Nat} {l1 : Option Value} {x : Nat} {σ : ab_St} {Q : Option Value → ab_St → Prop} : Ev d 30 24 [some (.ref x), l1] [] σ Q = Ev d 30 25 [some (.ref x), l1] [.ref x] σ Q := ev_A1 d30_24 rfl
theorem d30_25 : decode (ab_C 30) 25 = .ok (.dup, 1) := by decide +kernel
theorem e30_25 {d : Nat} {l0 l1 : Option Value} {s0 : Nat} {σ : ab_St} {Q : Option Value → ab_St → Prop} : Ev d 30 25 [l0, l1] [.ref s0] σ Q = Ev d 30 26 [l0, l1] [.ref s0, .ref s0] σ Q := ev_A1 d30_25 rfl
theorem d30_26 : decode (ab_C 30) 26 = .ok (.getfield 67, 3) := by decide +kernel
theorem e30_26 {d : Nat} {l0 l1 : Option Value} {s0 : Nat} {s1 : Nat} {σ : ab_St} {Q : Option Value → ab_St → Prop} : Ev d 30 26 [l0, l1] [.ref s0, .ref s1] σ Q = (ab_k s0 = 2 ∧ Ev d 30 29 [l0, l1] [.int (σ.1 s0 3), .ref s1] σ Q) := ev_Hc (c := ab_k s0 = 2) d30_26 rfl rfl rfl rfl rfl rfl rfl rfl
theorem d30_29 : decode (ab_C 30) 29 = .ok (.iconst 1, 1) := by decide +kernel
theorem e30_29 {d : Nat} {l0 l1 : Option Value} {s0 : Int32} {s1 : Nat} {σ : ab_St} {Q : Option Value → ab_St → Prop} : Ev d 30 29 [l0, l1] [.int s0, .ref s1] σ Q = Ev d 30 30 [l0, l1] [.int 1, .int s0, .ref s1] σ Q := ev_A1 d30_29 rfl
theorem d30_30 : decode (ab_C 30) 30 = .ok (.iload_n 1, 1) := by decide +kernel
theorem e30_30 {d : Nat} {l0 : Option Value} {x : Int32} {s0 : Int32} {s1 : Int32} {s2 : Nat} {σ : ab_St} {Q : Option Value → ab_St → Prop} : Ev d 30 30 [l0, some (.int x)] [.int s0, .int s1, .ref s2] σ Q = Ev d 30 31 [l0, some (.int x)] [.int x, .int s0, .int s1, .ref s2] σ Q := ev_A1 d30_30 rfl
theorem d30_31 : decode (ab_C 30) 31 = .ok (.ishl, 1) := by decide +kernel
theorem e30_31 {d : Nat} {l0 l1 : Option Value} {s0 : Int32} {s1 : Int32} {s2 : Int32} {s3 : Nat} {σ : ab_St} {Q : Option Value → ab_St → Prop} : Ev d 30 31 [l0, l1] [.int s0, .int s1, .int s2, .ref s3] σ Q = Ev d 30 32 [l0, l1] [.int (s1 <<< (s0 &&& 31)), .int s2, .ref s3] σ Q := ev_A2 d30_31 rfl rfl
theorem d30_32 : decode (ab_C 30) 32 = .ok (.ior, 1) := by decide +kernel
theorem e30_32 {d : Nat} {l0 l1 : Option Value} {s0 : Int32} {s1 : Int32} {s2 : Nat} {σ : ab_St} {Q : Option Value → ab_St → Prop} : Ev d 30 32 [l0, l1] [.int s0, .int s1, .ref s2] σ Q = Ev d 30 33 [l0, l1] [.int (s1 ||| s0), .ref s2] σ Q := ev_A2 d30_32 rfl rfl
theorem d30_33 : decode (ab_C 30) 33 = .ok (.putfield 67, 3) := by decide +kernel
theorem e30_33 {d : Nat} {l0 l1 : Option Value} {s0 : Int32} {s1 : Nat} {σ : ab_St} {Q : Option Value → ab_St → Prop} : Ev d 30 33 [l0, l1] [.int s0, .ref s1] σ Q = (ab_k s1 = 2 ∧ Ev d 30 36 [l0, l1] [] (ab_wI σ s1 (upd (σ.1 s1) 3 s0)) Q) := ev_Hc (c := ab_k s1 = 2) d30_33 rfl rfl rfl rfl rfl rfl rfl rfl
theorem d30_36 : decode (ab_C 30) 36 = .ok (.aload_n 0, 1) := by decide +kernel
theorem e30_36 {d : Nat} {l1 : Option Value} {x : Nat} {σ : ab_St} {Q : Option Value → ab_St → Prop} : Ev d 30 36 [some (.ref x), l1] [] σ Q = Ev d 30 37 [some (.ref x), l1] [.ref x] σ Q := ev_A1 d30_36 rfl
theorem d30_37 : decode (ab_C 30) 37 = .ok (.iload_n 1, 1) := by decide +kernel
theorem e30_37 {d : Nat} {l0 : Option Value} {x : Int32} {s0 : Nat} {σ : ab_St} {Q : Option Value → ab_St → Prop} : Ev d 30 37 [l0, some (.int x)] [.ref s0] σ Q = Ev d 30 38 [l0, some (.int x)] [.int x, .ref s0] σ Q := ev_A1 d30_37 rfl
theorem d30_38 : decode (ab_C 30) 38 = .ok (.invokevirtual 98, 3) := by decide +kernel
theorem e30_38 {d : Nat} {l0 l1 : Option Value} {s0 : Int32} {s1 : Nat} {σ : ab_St} {Q : Option Value → ab_St → Prop} : Ev (d + 1) 30 38 [l0, l1] [.int s0, .ref s1] σ Q = (ab_k s1 = 2 ∧ Ev d 29 0 [some (.ref s1), some (.int s0)] [] σ (fun r σ2 => Ev (d + 1) 30 41 [l0, l1] (r.toList ++ []) σ2 Q)) := ev_KV (b := s1) (ls := [l0, l1]) (st := [.int s0, .ref s1]) (as := [.int s0]) (rest := []) d30_38 rfl rfl rfl (Nat.le_of_ble_eq_true rfl) (Nat.le_of_ble_eq_true rfl) (Nat.le_of_ble_eq_true rfl) rfl rfl rfl rfl rfl rfl rfl
theorem d30_41 : decode (ab_C 30) 41 = .ok (.ireturn, 1) := by decide +kernel
theorem e30_41 {d : Nat} {l0 l1 : Option Value} {s0 : Int32} {σ : ab_St} {Q : Option Value → ab_St → Prop} : Ev d 30 41 [l0, l1] [.int s0] σ Q = ((s0 = 0 ∨ s0 = 1) ∧ Q (some (.int s0)) σ) := ev_Z d30_41 rfl
/-! SaidLeast$Told.hasSaying(I)Z -/
theorem d31_0 : decode (ab_C 31) 0 = .ok (.iload_n 1, 1) := by decide +kernel
theorem e31_0 {d : Nat} {l0 : Option Value} {x : Int32} {σ : ab_St} {Q : Option Value → ab_St → Prop} : Ev d 31 0 [l0, some (.int x)] [] σ Q = Ev d 31 1 [l0, some (.int x)] [.int x] σ Q := ev_A1 d31_0 rfl
theorem d31_1 : decode (ab_C 31) 1 = .ok (.ifCond .lt 15, 3) := by decide +kernel
theorem e31_1 {d : Nat} {l0 l1 : Option Value} {s0 : Int32} {σ : ab_St} {Q : Option Value → ab_St → Prop} : Ev d 31 1 [l0, l1] [.int s0] σ Q = if s0 < 0 then Ev d 31 16 [l0, l1] [] σ Q else Ev d 31 4 [l0, l1] [] σ Q := ev_B (c := s0 < 0) d31_1 rfl rfl rfl rfl rfl
theorem d31_4 : decode (ab_C 31) 4 = .ok (.iload_n 1, 1) := by decide +kernel
theorem e31_4 {d : Nat} {l0 : Option Value} {x : Int32} {σ : ab_St} {Q : Option Value → ab_St → Prop} : Ev d 31 4 [l0, some (.int x)] [] σ Q = Ev d 31 5 [l0, some (.int x)] [.int x] σ Q := ev_A1 d31_4 rfl
theorem d31_5 : decode (ab_C 31) 5 = .ok (.aload_n 0, 1) := by decide +kernel
theorem e31_5 {d : Nat} {l1 : Option Value} {x : Nat} {s0 : Int32} {σ : ab_St} {Q : Option Value → ab_St → Prop} : Ev d 31 5 [some (.ref x), l1] [.int s0] σ Q = Ev d 31 6 [some (.ref x), l1] [.ref x, .int s0] σ Q := ev_A1 d31_5 rfl
theorem d31_6 : decode (ab_C 31) 6 = .ok (.getfield 34, 3) := by decide +kernel
theorem e31_6 {d : Nat} {l0 l1 : Option Value} {s0 : Nat} {s1 : Int32} {σ : ab_St} {Q : Option Value → ab_St → Prop} : Ev d 31 6 [l0, l1] [.ref s0, .int s1] σ Q = (ab_k s0 = 3 ∧ Ev d 31 9 [l0, l1] [.int (σ.1 s0 5), .int s1] σ Q) := ev_Hc (c := ab_k s0 = 3) d31_6 rfl rfl rfl rfl rfl rfl rfl rfl
theorem d31_9 : decode (ab_C 31) 9 = .ok (.if_icmp .ge 7, 3) := by decide +kernel
theorem e31_9 {d : Nat} {l0 l1 : Option Value} {s0 : Int32} {s1 : Int32} {σ : ab_St} {Q : Option Value → ab_St → Prop} : Ev d 31 9 [l0, l1] [.int s0, .int s1] σ Q = if s0 ≤ s1 then Ev d 31 16 [l0, l1] [] σ Q else Ev d 31 12 [l0, l1] [] σ Q := ev_B (c := s0 ≤ s1) d31_9 rfl rfl rfl rfl rfl
theorem d31_12 : decode (ab_C 31) 12 = .ok (.iconst 1, 1) := by decide +kernel
theorem e31_12 {d : Nat} {l0 l1 : Option Value} {σ : ab_St} {Q : Option Value → ab_St → Prop} : Ev d 31 12 [l0, l1] [] σ Q = Ev d 31 13 [l0, l1] [.int 1] σ Q := ev_A1 d31_12 rfl
theorem d31_13 : decode (ab_C 31) 13 = .ok (.goto 4, 3) := by decide +kernel
theorem e31_13 {d : Nat} {l0 l1 : Option Value} {s0 : Int32} {σ : ab_St} {Q : Option Value → ab_St → Prop} : Ev d 31 13 [l0, l1] [.int s0] σ Q = Ev d 31 17 [l0, l1] [.int s0] σ Q := ev_J d31_13 rfl rfl rfl rfl rfl
theorem d31_16 : decode (ab_C 31) 16 = .ok (.iconst 0, 1) := by decide +kernel
theorem e31_16 {d : Nat} {l0 l1 : Option Value} {σ : ab_St} {Q : Option Value → ab_St → Prop} : Ev d 31 16 [l0, l1] [] σ Q = Ev d 31 17 [l0, l1] [.int 0] σ Q := ev_A1 d31_16 rfl
theorem d31_17 : decode (ab_C 31) 17 = .ok (.ireturn, 1) := by decide +kernel
theorem e31_17 {d : Nat} {l0 l1 : Option Value} {s0 : Int32} {σ : ab_St} {Q : Option Value → ab_St → Prop} : Ev d 31 17 [l0, l1] [.int s0] σ Q = ((s0 = 0 ∨ s0 = 1) ∧ Q (some (.int s0)) σ) := ev_Z d31_17 rfl
/-! SaidLeast.has(II)Z -/
theorem d32_0 : decode (ab_C 32) 0 = .ok (.iload_n 0, 1) := by decide +kernel
theorem e32_0 {d : Nat} {l1 : Option Value} {x : Int32} {σ : ab_St} {Q : Option Value → ab_St → Prop} : Ev d 32 0 [some (.int x), l1] [] σ Q = Ev d 32 1 [some (.int x), l1] [.int x] σ Q := ev_A1 d32_0 rfl
theorem d32_1 : decode (ab_C 32) 1 = .ok (.iload_n 1, 1) := by decide +kernel
theorem e32_1 {d : Nat} {l0 : Option Value} {x : Int32} {s0 : Int32} {σ : ab_St} {Q : Option Value → ab_St → Prop} : Ev d 32 1 [l0, some (.int x)] [.int s0] σ Q = Ev d 32 2 [l0, some (.int x)] [.int x, .int s0] σ Q := ev_A1 d32_1 rfl
theorem d32_2 : decode (ab_C 32) 2 = .ok (.ishr, 1) := by decide +kernel
theorem e32_2 {d : Nat} {l0 l1 : Option Value} {s0 : Int32} {s1 : Int32} {σ : ab_St} {Q : Option Value → ab_St → Prop} : Ev d 32 2 [l0, l1] [.int s0, .int s1] σ Q = Ev d 32 3 [l0, l1] [.int (s1 >>> (s0 &&& 31))] σ Q := ev_A2 d32_2 rfl rfl
theorem d32_3 : decode (ab_C 32) 3 = .ok (.iconst 1, 1) := by decide +kernel
theorem e32_3 {d : Nat} {l0 l1 : Option Value} {s0 : Int32} {σ : ab_St} {Q : Option Value → ab_St → Prop} : Ev d 32 3 [l0, l1] [.int s0] σ Q = Ev d 32 4 [l0, l1] [.int 1, .int s0] σ Q := ev_A1 d32_3 rfl
theorem d32_4 : decode (ab_C 32) 4 = .ok (.iand, 1) := by decide +kernel
theorem e32_4 {d : Nat} {l0 l1 : Option Value} {s0 : Int32} {s1 : Int32} {σ : ab_St} {Q : Option Value → ab_St → Prop} : Ev d 32 4 [l0, l1] [.int s0, .int s1] σ Q = Ev d 32 5 [l0, l1] [.int (s1 &&& s0)] σ Q := ev_A2 d32_4 rfl rfl
theorem d32_5 : decode (ab_C 32) 5 = .ok (.ifCond .eq 7, 3) := by decide +kernel
theorem e32_5 {d : Nat} {l0 l1 : Option Value} {s0 : Int32} {σ : ab_St} {Q : Option Value → ab_St → Prop} : Ev d 32 5 [l0, l1] [.int s0] σ Q = if s0 = 0 then Ev d 32 12 [l0, l1] [] σ Q else Ev d 32 8 [l0, l1] [] σ Q := ev_B (c := s0 = 0) d32_5 rfl rfl rfl rfl rfl
theorem d32_8 : decode (ab_C 32) 8 = .ok (.iconst 1, 1) := by decide +kernel
theorem e32_8 {d : Nat} {l0 l1 : Option Value} {σ : ab_St} {Q : Option Value → ab_St → Prop} : Ev d 32 8 [l0, l1] [] σ Q = Ev d 32 9 [l0, l1] [.int 1] σ Q := ev_A1 d32_8 rfl
theorem d32_9 : decode (ab_C 32) 9 = .ok (.goto 4, 3) := by decide +kernel
theorem e32_9 {d : Nat} {l0 l1 : Option Value} {s0 : Int32} {σ : ab_St} {Q : Option Value → ab_St → Prop} : Ev d 32 9 [l0, l1] [.int s0] σ Q = Ev d 32 13 [l0, l1] [.int s0] σ Q := ev_J d32_9 rfl rfl rfl rfl rfl
theorem d32_12 : decode (ab_C 32) 12 = .ok (.iconst 0, 1) := by decide +kernel
theorem e32_12 {d : Nat} {l0 l1 : Option Value} {σ : ab_St} {Q : Option Value → ab_St → Prop} : Ev d 32 12 [l0, l1] [] σ Q = Ev d 32 13 [l0, l1] [.int 0] σ Q := ev_A1 d32_12 rfl
theorem d32_13 : decode (ab_C 32) 13 = .ok (.ireturn, 1) := by decide +kernel
theorem e32_13 {d : Nat} {l0 l1 : Option Value} {s0 : Int32} {σ : ab_St} {Q : Option Value → ab_St → Prop} : Ev d 32 13 [l0, l1] [.int s0] σ Q = ((s0 = 0 ∨ s0 = 1) ∧ Q (some (.int s0)) σ) := ev_Z d32_13 rfl
/-! SaidLeast.parlour()I -/
theorem d33_0 : decode (ab_C 33) 0 = .ok (.aload_n 0, 1) := by decide +kernel
theorem e33_0 {d : Nat} {x : Nat} {σ : ab_St} {Q : Option Value → ab_St → Prop} : Ev d 33 0 [some (.ref x)] [] σ Q = Ev d 33 1 [some (.ref x)] [.ref x] σ Q := ev_A1 d33_0 rfl
theorem d33_1 : decode (ab_C 33) 1 = .ok (.getfield 19, 3) := by decide +kernel
theorem e33_1 {d : Nat} {l0 : Option Value} {s0 : Nat} {σ : ab_St} {Q : Option Value → ab_St → Prop} : Ev d 33 1 [l0] [.ref s0] σ Q = (ab_k s0 = 0 ∧ Ev d 33 4 [l0] [.ref (ab_r s0 1)] σ Q) := ev_Hc (c := ab_k s0 = 0) d33_1 rfl rfl rfl rfl rfl rfl rfl rfl
theorem d33_4 : decode (ab_C 33) 4 = .ok (.aload_n 0, 1) := by decide +kernel
theorem e33_4 {d : Nat} {x : Nat} {s0 : Nat} {σ : ab_St} {Q : Option Value → ab_St → Prop} : Ev d 33 4 [some (.ref x)] [.ref s0] σ Q = Ev d 33 5 [some (.ref x)] [.ref x, .ref s0] σ Q := ev_A1 d33_4 rfl
theorem d33_5 : decode (ab_C 33) 5 = .ok (.getfield 12, 3) := by decide +kernel
theorem e33_5 {d : Nat} {l0 : Option Value} {s0 : Nat} {s1 : Nat} {σ : ab_St} {Q : Option Value → ab_St → Prop} : Ev d 33 5 [l0] [.ref s0, .ref s1] σ Q = (ab_k s0 = 0 ∧ Ev d 33 8 [l0] [.ref (ab_r s0 0), .ref s1] σ Q) := ev_Hc (c := ab_k s0 = 0) d33_5 rfl rfl rfl rfl rfl rfl rfl rfl
theorem d33_8 : decode (ab_C 33) 8 = .ok (.invokevirtual 80, 3) := by decide +kernel
theorem e33_8 {d : Nat} {l0 : Option Value} {s0 : Nat} {s1 : Nat} {σ : ab_St} {Q : Option Value → ab_St → Prop} : Ev (d + 1) 33 8 [l0] [.ref s0, .ref s1] σ Q = (ab_k s1 = 2 ∧ Ev d 15 0 [some (.ref s1), some (.ref s0), none] [] σ (fun r σ2 => Ev (d + 1) 33 11 [l0] (r.toList ++ []) σ2 Q)) := ev_KV (b := s1) (ls := [l0]) (st := [.ref s0, .ref s1]) (as := [.ref s0]) (rest := []) d33_8 rfl rfl rfl (Nat.le_of_ble_eq_true rfl) (Nat.le_of_ble_eq_true rfl) (Nat.le_of_ble_eq_true rfl) rfl rfl rfl rfl rfl rfl rfl
theorem d33_11 : decode (ab_C 33) 11 = .ok (.bipush (-9), 2) := by decide +kernel
theorem e33_11 {d : Nat} {l0 : Option Value} {s0 : Int32} {σ : ab_St} {Q : Option Value → ab_St → Prop} : Ev d 33 11 [l0] [.int s0] σ Q = Ev d 33 13 [l0] [.int (-9), .int s0] σ Q := ev_A1 d33_11 rfl
theorem d33_13 : decode (ab_C 33) 13 = .ok (.if_icmp .eq 6, 3) := by decide +kernel
theorem e33_13 {d : Nat} {l0 : Option Value} {s0 : Int32} {s1 : Int32} {σ : ab_St} {Q : Option Value → ab_St → Prop} : Ev d 33 13 [l0] [.int s0, .int s1] σ Q = if s1 = s0 then Ev d 33 19 [l0] [] σ Q else Ev d 33 16 [l0] [] σ Q := ev_B (c := s1 = s0) d33_13 rfl rfl rfl rfl rfl
theorem d33_16 : decode (ab_C 33) 16 = .ok (.bipush (-3), 2) := by decide +kernel
theorem e33_16 {d : Nat} {l0 : Option Value} {σ : ab_St} {Q : Option Value → ab_St → Prop} : Ev d 33 16 [l0] [] σ Q = Ev d 33 18 [l0] [.int (-3)] σ Q := ev_A1 d33_16 rfl
theorem d33_18 : decode (ab_C 33) 18 = .ok (.ireturn, 1) := by decide +kernel
theorem e33_18 {d : Nat} {l0 : Option Value} {s0 : Int32} {σ : ab_St} {Q : Option Value → ab_St → Prop} : Ev d 33 18 [l0] [.int s0] σ Q = Q (some (.int s0)) σ := ev_E d33_18 rfl rfl rfl rfl rfl rfl rfl
theorem d33_19 : decode (ab_C 33) 19 = .ok (.aload_n 0, 1) := by decide +kernel
theorem e33_19 {d : Nat} {x : Nat} {σ : ab_St} {Q : Option Value → ab_St → Prop} : Ev d 33 19 [some (.ref x)] [] σ Q = Ev d 33 20 [some (.ref x)] [.ref x] σ Q := ev_A1 d33_19 rfl
theorem d33_20 : decode (ab_C 33) 20 = .ok (.getfield 26, 3) := by decide +kernel
theorem e33_20 {d : Nat} {l0 : Option Value} {s0 : Nat} {σ : ab_St} {Q : Option Value → ab_St → Prop} : Ev d 33 20 [l0] [.ref s0] σ Q = (ab_k s0 = 0 ∧ Ev d 33 23 [l0] [.ref (ab_r s0 2)] σ Q) := ev_Hc (c := ab_k s0 = 0) d33_20 rfl rfl rfl rfl rfl rfl rfl rfl
theorem d33_23 : decode (ab_C 33) 23 = .ok (.aload_n 0, 1) := by decide +kernel
theorem e33_23 {d : Nat} {x : Nat} {s0 : Nat} {σ : ab_St} {Q : Option Value → ab_St → Prop} : Ev d 33 23 [some (.ref x)] [.ref s0] σ Q = Ev d 33 24 [some (.ref x)] [.ref x, .ref s0] σ Q := ev_A1 d33_23 rfl
theorem d33_24 : decode (ab_C 33) 24 = .ok (.getfield 19, 3) := by decide +kernel
theorem e33_24 {d : Nat} {l0 : Option Value} {s0 : Nat} {s1 : Nat} {σ : ab_St} {Q : Option Value → ab_St → Prop} : Ev d 33 24 [l0] [.ref s0, .ref s1] σ Q = (ab_k s0 = 0 ∧ Ev d 33 27 [l0] [.ref (ab_r s0 1), .ref s1] σ Q) := ev_Hc (c := ab_k s0 = 0) d33_24 rfl rfl rfl rfl rfl rfl rfl rfl
theorem d33_27 : decode (ab_C 33) 27 = .ok (.getfield 84, 3) := by decide +kernel
theorem e33_27 {d : Nat} {l0 : Option Value} {s0 : Nat} {s1 : Nat} {σ : ab_St} {Q : Option Value → ab_St → Prop} : Ev d 33 27 [l0] [.ref s0, .ref s1] σ Q = (ab_k s0 = 2 ∧ Ev d 33 30 [l0] [.ref (ab_r s0 0), .ref s1] σ Q) := ev_Hc (c := ab_k s0 = 2) d33_27 rfl rfl rfl rfl rfl rfl rfl rfl
theorem d33_30 : decode (ab_C 33) 30 = .ok (.invokevirtual 85, 3) := by decide +kernel
theorem e33_30 {d : Nat} {l0 : Option Value} {s0 : Nat} {s1 : Nat} {σ : ab_St} {Q : Option Value → ab_St → Prop} : Ev (d + 1) 33 30 [l0] [.ref s0, .ref s1] σ Q = (ab_k s1 = 3 ∧ Ev d 34 0 [some (.ref s1), some (.ref s0)] [] σ (fun r σ2 => Ev (d + 1) 33 33 [l0] (r.toList ++ []) σ2 Q)) := ev_KV (b := s1) (ls := [l0]) (st := [.ref s0, .ref s1]) (as := [.ref s0]) (rest := []) d33_30 rfl rfl rfl (Nat.le_of_ble_eq_true rfl) (Nat.le_of_ble_eq_true rfl) (Nat.le_of_ble_eq_true rfl) rfl rfl rfl rfl rfl rfl rfl
theorem d33_33 : decode (ab_C 33) 33 = .ok (.aload_n 0, 1) := by decide +kernel
theorem e33_33 {d : Nat} {x : Nat} {σ : ab_St} {Q : Option Value → ab_St → Prop} : Ev d 33 33 [some (.ref x)] [] σ Q = Ev d 33 34 [some (.ref x)] [.ref x] σ Q := ev_A1 d33_33 rfl
theorem d33_34 : decode (ab_C 33) 34 = .ok (.getfield 33, 3) := by decide +kernel
theorem e33_34 {d : Nat} {l0 : Option Value} {s0 : Nat} {σ : ab_St} {Q : Option Value → ab_St → Prop} : Ev d 33 34 [l0] [.ref s0] σ Q = (ab_k s0 = 0 ∧ Ev d 33 37 [l0] [.ref (ab_r s0 3)] σ Q) := ev_Hc (c := ab_k s0 = 0) d33_34 rfl rfl rfl rfl rfl rfl rfl rfl
theorem d33_37 : decode (ab_C 33) 37 = .ok (.aload_n 0, 1) := by decide +kernel
theorem e33_37 {d : Nat} {x : Nat} {s0 : Nat} {σ : ab_St} {Q : Option Value → ab_St → Prop} : Ev d 33 37 [some (.ref x)] [.ref s0] σ Q = Ev d 33 38 [some (.ref x)] [.ref x, .ref s0] σ Q := ev_A1 d33_37 rfl
theorem d33_38 : decode (ab_C 33) 38 = .ok (.getfield 19, 3) := by decide +kernel
theorem e33_38 {d : Nat} {l0 : Option Value} {s0 : Nat} {s1 : Nat} {σ : ab_St} {Q : Option Value → ab_St → Prop} : Ev d 33 38 [l0] [.ref s0, .ref s1] σ Q = (ab_k s0 = 0 ∧ Ev d 33 41 [l0] [.ref (ab_r s0 1), .ref s1] σ Q) := ev_Hc (c := ab_k s0 = 0) d33_38 rfl rfl rfl rfl rfl rfl rfl rfl
theorem d33_41 : decode (ab_C 33) 41 = .ok (.getfield 89, 3) := by decide +kernel
theorem e33_41 {d : Nat} {l0 : Option Value} {s0 : Nat} {s1 : Nat} {σ : ab_St} {Q : Option Value → ab_St → Prop} : Ev d 33 41 [l0] [.ref s0, .ref s1] σ Q = (ab_k s0 = 2 ∧ Ev d 33 44 [l0] [.ref (ab_r s0 1), .ref s1] σ Q) := ev_Hc (c := ab_k s0 = 2) d33_41 rfl rfl rfl rfl rfl rfl rfl rfl
theorem d33_44 : decode (ab_C 33) 44 = .ok (.invokevirtual 92, 3) := by decide +kernel
theorem e33_44 {d : Nat} {l0 : Option Value} {s0 : Nat} {s1 : Nat} {σ : ab_St} {Q : Option Value → ab_St → Prop} : Ev (d + 1) 33 44 [l0] [.ref s0, .ref s1] σ Q = (ab_k s1 = 4 ∧ Ev d 35 0 [some (.ref s1), some (.ref s0)] [] σ (fun r σ2 => Ev (d + 1) 33 47 [l0] (r.toList ++ []) σ2 Q)) := ev_KV (b := s1) (ls := [l0]) (st := [.ref s0, .ref s1]) (as := [.ref s0]) (rest := []) d33_44 rfl rfl rfl (Nat.le_of_ble_eq_true rfl) (Nat.le_of_ble_eq_true rfl) (Nat.le_of_ble_eq_true rfl) rfl rfl rfl rfl rfl rfl rfl
theorem d33_47 : decode (ab_C 33) 47 = .ok (.aload_n 0, 1) := by decide +kernel
theorem e33_47 {d : Nat} {x : Nat} {σ : ab_St} {Q : Option Value → ab_St → Prop} : Ev d 33 47 [some (.ref x)] [] σ Q = Ev d 33 48 [some (.ref x)] [.ref x] σ Q := ev_A1 d33_47 rfl
theorem d33_48 : decode (ab_C 33) 48 = .ok (.getfield 43, 3) := by decide +kernel
theorem e33_48 {d : Nat} {l0 : Option Value} {s0 : Nat} {σ : ab_St} {Q : Option Value → ab_St → Prop} : Ev d 33 48 [l0] [.ref s0] σ Q = (ab_k s0 = 0 ∧ Ev d 33 51 [l0] [.ref (ab_r s0 5)] σ Q) := ev_Hc (c := ab_k s0 = 0) d33_48 rfl rfl rfl rfl rfl rfl rfl rfl
theorem d33_51 : decode (ab_C 33) 51 = .ok (.invokevirtual 95, 3) := by decide +kernel
theorem e33_51 {d : Nat} {l0 : Option Value} {s0 : Nat} {σ : ab_St} {Q : Option Value → ab_St → Prop} : Ev (d + 1) 33 51 [l0] [.ref s0] σ Q = (ab_k s0 = 5 ∧ Ev d 36 0 [some (.ref s0)] [] σ (fun r σ2 => Ev (d + 1) 33 54 [l0] (r.toList ++ []) σ2 Q)) := ev_KV (b := s0) (ls := [l0]) (st := [.ref s0]) (as := []) (rest := []) d33_51 rfl rfl rfl (Nat.le_of_ble_eq_true rfl) (Nat.le_of_ble_eq_true rfl) (Nat.le_of_ble_eq_true rfl) rfl rfl rfl rfl rfl rfl rfl
theorem d33_54 : decode (ab_C 33) 54 = .ok (.aload_n 0, 1) := by decide +kernel
theorem e33_54 {d : Nat} {x : Nat} {σ : ab_St} {Q : Option Value → ab_St → Prop} : Ev d 33 54 [some (.ref x)] [] σ Q = Ev d 33 55 [some (.ref x)] [.ref x] σ Q := ev_A1 d33_54 rfl
theorem d33_55 : decode (ab_C 33) 55 = .ok (.iconst 0, 1) := by decide +kernel
theorem e33_55 {d : Nat} {l0 : Option Value} {s0 : Nat} {σ : ab_St} {Q : Option Value → ab_St → Prop} : Ev d 33 55 [l0] [.ref s0] σ Q = Ev d 33 56 [l0] [.int 0, .ref s0] σ Q := ev_A1 d33_55 rfl
theorem d33_56 : decode (ab_C 33) 56 = .ok (.putfield 98, 3) := by decide +kernel
theorem e33_56 {d : Nat} {l0 : Option Value} {s0 : Int32} {s1 : Nat} {σ : ab_St} {Q : Option Value → ab_St → Prop} : Ev d 33 56 [l0] [.int s0, .ref s1] σ Q = (ab_k s1 = 0 ∧ Ev d 33 59 [l0] [] (ab_wI σ s1 (upd (σ.1 s1) 10 s0)) Q) := ev_Hc (c := ab_k s1 = 0) d33_56 rfl rfl rfl rfl rfl rfl rfl rfl
theorem d33_59 : decode (ab_C 33) 59 = .ok (.aload_n 0, 1) := by decide +kernel
theorem e33_59 {d : Nat} {x : Nat} {σ : ab_St} {Q : Option Value → ab_St → Prop} : Ev d 33 59 [some (.ref x)] [] σ Q = Ev d 33 60 [some (.ref x)] [.ref x] σ Q := ev_A1 d33_59 rfl
theorem d33_60 : decode (ab_C 33) 60 = .ok (.getfield 26, 3) := by decide +kernel
theorem e33_60 {d : Nat} {l0 : Option Value} {s0 : Nat} {σ : ab_St} {Q : Option Value → ab_St → Prop} : Ev d 33 60 [l0] [.ref s0] σ Q = (ab_k s0 = 0 ∧ Ev d 33 63 [l0] [.ref (ab_r s0 2)] σ Q) := ev_Hc (c := ab_k s0 = 0) d33_60 rfl rfl rfl rfl rfl rfl rfl rfl
theorem d33_63 : decode (ab_C 33) 63 = .ok (.getfield 101, 3) := by decide +kernel
theorem e33_63 {d : Nat} {l0 : Option Value} {s0 : Nat} {σ : ab_St} {Q : Option Value → ab_St → Prop} : Ev d 33 63 [l0] [.ref s0] σ Q = (ab_k s0 = 3 ∧ Ev d 33 66 [l0] [.int (σ.1 s0 4)] σ Q) := ev_Hc (c := ab_k s0 = 3) d33_63 rfl rfl rfl rfl rfl rfl rfl rfl
theorem d33_66 : decode (ab_C 33) 66 = .ok (.ireturn, 1) := by decide +kernel
theorem e33_66 {d : Nat} {l0 : Option Value} {s0 : Int32} {σ : ab_St} {Q : Option Value → ab_St → Prop} : Ev d 33 66 [l0] [.int s0] σ Q = Q (some (.int s0)) σ := ev_E d33_66 rfl rfl rfl rfl rfl rfl rfl
/-! SaidLeast$Told.copyFrom(LSaidLeast$Told;)V -/
theorem d34_0 : decode (ab_C 34) 0 = .ok (.aload_n 1, 1) := by decide +kernel
theorem e34_0 {d : Nat} {l0 : Option Value} {x : Nat} {σ : ab_St} {Q : Option Value → ab_St → Prop} : Ev d 34 0 [l0, some (.ref x)] [] σ Q = Ev d 34 1 [l0, some (.ref x)] [.ref x] σ Q := ev_A1 d34_0 rfl
theorem d34_1 : decode (ab_C 34) 1 = .ok (.getfield 9, 3) := by decide +kernel
theorem e34_1 {d : Nat} {l0 l1 : Option Value} {s0 : Nat} {σ : ab_St} {Q : Option Value → ab_St → Prop} : Ev d 34 1 [l0, l1] [.ref s0] σ Q = (ab_k s0 = 3 ∧ Ev d 34 4 [l0, l1] [.ref (ab_r s0 0)] σ Q) := ev_Hc (c := ab_k s0 = 3) d34_1 rfl rfl rfl rfl rfl rfl rfl rfl
theorem d34_4 : decode (ab_C 34) 4 = .ok (.iconst 0, 1) := by decide +kernel
theorem e34_4 {d : Nat} {l0 l1 : Option Value} {s0 : Nat} {σ : ab_St} {Q : Option Value → ab_St → Prop} : Ev d 34 4 [l0, l1] [.ref s0] σ Q = Ev d 34 5 [l0, l1] [.int 0, .ref s0] σ Q := ev_A1 d34_4 rfl
theorem d34_5 : decode (ab_C 34) 5 = .ok (.aload_n 0, 1) := by decide +kernel
theorem e34_5 {d : Nat} {l1 : Option Value} {x : Nat} {s0 : Int32} {s1 : Nat} {σ : ab_St} {Q : Option Value → ab_St → Prop} : Ev d 34 5 [some (.ref x), l1] [.int s0, .ref s1] σ Q = Ev d 34 6 [some (.ref x), l1] [.ref x, .int s0, .ref s1] σ Q := ev_A1 d34_5 rfl
theorem d34_6 : decode (ab_C 34) 6 = .ok (.getfield 9, 3) := by decide +kernel
theorem e34_6 {d : Nat} {l0 l1 : Option Value} {s0 : Nat} {s1 : Int32} {s2 : Nat} {σ : ab_St} {Q : Option Value → ab_St → Prop} : Ev d 34 6 [l0, l1] [.ref s0, .int s1, .ref s2] σ Q = (ab_k s0 = 3 ∧ Ev d 34 9 [l0, l1] [.ref (ab_r s0 0), .int s1, .ref s2] σ Q) := ev_Hc (c := ab_k s0 = 3) d34_6 rfl rfl rfl rfl rfl rfl rfl rfl
theorem d34_9 : decode (ab_C 34) 9 = .ok (.iconst 0, 1) := by decide +kernel
theorem e34_9 {d : Nat} {l0 l1 : Option Value} {s0 : Nat} {s1 : Int32} {s2 : Nat} {σ : ab_St} {Q : Option Value → ab_St → Prop} : Ev d 34 9 [l0, l1] [.ref s0, .int s1, .ref s2] σ Q = Ev d 34 10 [l0, l1] [.int 0, .ref s0, .int s1, .ref s2] σ Q := ev_A1 d34_9 rfl
theorem d34_10 : decode (ab_C 34) 10 = .ok (.bipush 8, 2) := by decide +kernel
theorem e34_10 {d : Nat} {l0 l1 : Option Value} {s0 : Int32} {s1 : Nat} {s2 : Int32} {s3 : Nat} {σ : ab_St} {Q : Option Value → ab_St → Prop} : Ev d 34 10 [l0, l1] [.int s0, .ref s1, .int s2, .ref s3] σ Q = Ev d 34 12 [l0, l1] [.int 8, .int s0, .ref s1, .int s2, .ref s3] σ Q := ev_A1 d34_10 rfl
theorem d34_12 : decode (ab_C 34) 12 = .ok (.invokestatic 24, 3) := by decide +kernel
theorem e34_12 {d : Nat} {l0 l1 : Option Value} {s0 : Int32} {s1 : Int32} {s2 : Nat} {s3 : Int32} {s4 : Nat} {σ : ab_St} {Q : Option Value → ab_St → Prop} : Ev (d + 1) 34 12 [l0, l1] [.int s0, .int s1, .ref s2, .int s3, .ref s4] σ Q = (((ab_k s4 = 100 ∧ ab_k s2 = 100) ∧ (¬ s3 < 0 ∧ ¬ s1 < 0 ∧ ¬ s0 < 0) ∧ s3.toNatClampNeg + s0.toNatClampNeg ≤ ab_n s4 ∧ s1.toNatClampNeg + s0.toNatClampNeg ≤ ab_n s2) ∧ Ev (d + 1) 34 15 [l0, l1] [] (ab_wI σ s2 (va_cpy (σ.1 s4) (σ.1 s2) s3.toNatClampNeg s1.toNatClampNeg s0.toNatClampNeg)) Q) := ev_ac d34_12 rfl (Nat.le_of_ble_eq_true rfl) rfl rfl
theorem d34_15 : decode (ab_C 34) 15 = .ok (.aload_n 1, 1) := by decide +kernel
theorem e34_15 {d : Nat} {l0 : Option Value} {x : Nat} {σ : ab_St} {Q : Option Value → ab_St → Prop} : Ev d 34 15 [l0, some (.ref x)] [] σ Q = Ev d 34 16 [l0, some (.ref x)] [.ref x] σ Q := ev_A1 d34_15 rfl
theorem d34_16 : decode (ab_C 34) 16 = .ok (.getfield 15, 3) := by decide +kernel
theorem e34_16 {d : Nat} {l0 l1 : Option Value} {s0 : Nat} {σ : ab_St} {Q : Option Value → ab_St → Prop} : Ev d 34 16 [l0, l1] [.ref s0] σ Q = (ab_k s0 = 3 ∧ Ev d 34 19 [l0, l1] [.ref (ab_r s0 1)] σ Q) := ev_Hc (c := ab_k s0 = 3) d34_16 rfl rfl rfl rfl rfl rfl rfl rfl
theorem d34_19 : decode (ab_C 34) 19 = .ok (.iconst 0, 1) := by decide +kernel
theorem e34_19 {d : Nat} {l0 l1 : Option Value} {s0 : Nat} {σ : ab_St} {Q : Option Value → ab_St → Prop} : Ev d 34 19 [l0, l1] [.ref s0] σ Q = Ev d 34 20 [l0, l1] [.int 0, .ref s0] σ Q := ev_A1 d34_19 rfl
theorem d34_20 : decode (ab_C 34) 20 = .ok (.aload_n 0, 1) := by decide +kernel
theorem e34_20 {d : Nat} {l1 : Option Value} {x : Nat} {s0 : Int32} {s1 : Nat} {σ : ab_St} {Q : Option Value → ab_St → Prop} : Ev d 34 20 [some (.ref x), l1] [.int s0, .ref s1] σ Q = Ev d 34 21 [some (.ref x), l1] [.ref x, .int s0, .ref s1] σ Q := ev_A1 d34_20 rfl
theorem d34_21 : decode (ab_C 34) 21 = .ok (.getfield 15, 3) := by decide +kernel
theorem e34_21 {d : Nat} {l0 l1 : Option Value} {s0 : Nat} {s1 : Int32} {s2 : Nat} {σ : ab_St} {Q : Option Value → ab_St → Prop} : Ev d 34 21 [l0, l1] [.ref s0, .int s1, .ref s2] σ Q = (ab_k s0 = 3 ∧ Ev d 34 24 [l0, l1] [.ref (ab_r s0 1), .int s1, .ref s2] σ Q) := ev_Hc (c := ab_k s0 = 3) d34_21 rfl rfl rfl rfl rfl rfl rfl rfl
theorem d34_24 : decode (ab_C 34) 24 = .ok (.iconst 0, 1) := by decide +kernel
theorem e34_24 {d : Nat} {l0 l1 : Option Value} {s0 : Nat} {s1 : Int32} {s2 : Nat} {σ : ab_St} {Q : Option Value → ab_St → Prop} : Ev d 34 24 [l0, l1] [.ref s0, .int s1, .ref s2] σ Q = Ev d 34 25 [l0, l1] [.int 0, .ref s0, .int s1, .ref s2] σ Q := ev_A1 d34_24 rfl
theorem d34_25 : decode (ab_C 34) 25 = .ok (.bipush 8, 2) := by decide +kernel
theorem e34_25 {d : Nat} {l0 l1 : Option Value} {s0 : Int32} {s1 : Nat} {s2 : Int32} {s3 : Nat} {σ : ab_St} {Q : Option Value → ab_St → Prop} : Ev d 34 25 [l0, l1] [.int s0, .ref s1, .int s2, .ref s3] σ Q = Ev d 34 27 [l0, l1] [.int 8, .int s0, .ref s1, .int s2, .ref s3] σ Q := ev_A1 d34_25 rfl
theorem d34_27 : decode (ab_C 34) 27 = .ok (.invokestatic 24, 3) := by decide +kernel
theorem e34_27 {d : Nat} {l0 l1 : Option Value} {s0 : Int32} {s1 : Int32} {s2 : Nat} {s3 : Int32} {s4 : Nat} {σ : ab_St} {Q : Option Value → ab_St → Prop} : Ev (d + 1) 34 27 [l0, l1] [.int s0, .int s1, .ref s2, .int s3, .ref s4] σ Q = (((ab_k s4 = 100 ∧ ab_k s2 = 100) ∧ (¬ s3 < 0 ∧ ¬ s1 < 0 ∧ ¬ s0 < 0) ∧ s3.toNatClampNeg + s0.toNatClampNeg ≤ ab_n s4 ∧ s1.toNatClampNeg + s0.toNatClampNeg ≤ ab_n s2) ∧ Ev (d + 1) 34 30 [l0, l1] [] (ab_wI σ s2 (va_cpy (σ.1 s4) (σ.1 s2) s3.toNatClampNeg s1.toNatClampNeg s0.toNatClampNeg)) Q) := ev_ac d34_27 rfl (Nat.le_of_ble_eq_true rfl) rfl rfl
theorem d34_30 : decode (ab_C 34) 30 = .ok (.aload_n 1, 1) := by decide +kernel
theorem e34_30 {d : Nat} {l0 : Option Value} {x : Nat} {σ : ab_St} {Q : Option Value → ab_St → Prop} : Ev d 34 30 [l0, some (.ref x)] [] σ Q = Ev d 34 31 [l0, some (.ref x)] [.ref x] σ Q := ev_A1 d34_30 rfl
theorem d34_31 : decode (ab_C 34) 31 = .ok (.getfield 18, 3) := by decide +kernel
theorem e34_31 {d : Nat} {l0 l1 : Option Value} {s0 : Nat} {σ : ab_St} {Q : Option Value → ab_St → Prop} : Ev d 34 31 [l0, l1] [.ref s0] σ Q = (ab_k s0 = 3 ∧ Ev d 34 34 [l0, l1] [.ref (ab_r s0 2)] σ Q) := ev_Hc (c := ab_k s0 = 3) d34_31 rfl rfl rfl rfl rfl rfl rfl rfl
theorem d34_34 : decode (ab_C 34) 34 = .ok (.iconst 0, 1) := by decide +kernel
theorem e34_34 {d : Nat} {l0 l1 : Option Value} {s0 : Nat} {σ : ab_St} {Q : Option Value → ab_St → Prop} : Ev d 34 34 [l0, l1] [.ref s0] σ Q = Ev d 34 35 [l0, l1] [.int 0, .ref s0] σ Q := ev_A1 d34_34 rfl
theorem d34_35 : decode (ab_C 34) 35 = .ok (.aload_n 0, 1) := by decide +kernel
theorem e34_35 {d : Nat} {l1 : Option Value} {x : Nat} {s0 : Int32} {s1 : Nat} {σ : ab_St} {Q : Option Value → ab_St → Prop} : Ev d 34 35 [some (.ref x), l1] [.int s0, .ref s1] σ Q = Ev d 34 36 [some (.ref x), l1] [.ref x, .int s0, .ref s1] σ Q := ev_A1 d34_35 rfl
theorem d34_36 : decode (ab_C 34) 36 = .ok (.getfield 18, 3) := by decide +kernel
theorem e34_36 {d : Nat} {l0 l1 : Option Value} {s0 : Nat} {s1 : Int32} {s2 : Nat} {σ : ab_St} {Q : Option Value → ab_St → Prop} : Ev d 34 36 [l0, l1] [.ref s0, .int s1, .ref s2] σ Q = (ab_k s0 = 3 ∧ Ev d 34 39 [l0, l1] [.ref (ab_r s0 2), .int s1, .ref s2] σ Q) := ev_Hc (c := ab_k s0 = 3) d34_36 rfl rfl rfl rfl rfl rfl rfl rfl
theorem d34_39 : decode (ab_C 34) 39 = .ok (.iconst 0, 1) := by decide +kernel
theorem e34_39 {d : Nat} {l0 l1 : Option Value} {s0 : Nat} {s1 : Int32} {s2 : Nat} {σ : ab_St} {Q : Option Value → ab_St → Prop} : Ev d 34 39 [l0, l1] [.ref s0, .int s1, .ref s2] σ Q = Ev d 34 40 [l0, l1] [.int 0, .ref s0, .int s1, .ref s2] σ Q := ev_A1 d34_39 rfl
theorem d34_40 : decode (ab_C 34) 40 = .ok (.bipush 8, 2) := by decide +kernel
theorem e34_40 {d : Nat} {l0 l1 : Option Value} {s0 : Int32} {s1 : Nat} {s2 : Int32} {s3 : Nat} {σ : ab_St} {Q : Option Value → ab_St → Prop} : Ev d 34 40 [l0, l1] [.int s0, .ref s1, .int s2, .ref s3] σ Q = Ev d 34 42 [l0, l1] [.int 8, .int s0, .ref s1, .int s2, .ref s3] σ Q := ev_A1 d34_40 rfl
theorem d34_42 : decode (ab_C 34) 42 = .ok (.invokestatic 24, 3) := by decide +kernel
theorem e34_42 {d : Nat} {l0 l1 : Option Value} {s0 : Int32} {s1 : Int32} {s2 : Nat} {s3 : Int32} {s4 : Nat} {σ : ab_St} {Q : Option Value → ab_St → Prop} : Ev (d + 1) 34 42 [l0, l1] [.int s0, .int s1, .ref s2, .int s3, .ref s4] σ Q = (((ab_k s4 = 100 ∧ ab_k s2 = 100) ∧ (¬ s3 < 0 ∧ ¬ s1 < 0 ∧ ¬ s0 < 0) ∧ s3.toNatClampNeg + s0.toNatClampNeg ≤ ab_n s4 ∧ s1.toNatClampNeg + s0.toNatClampNeg ≤ ab_n s2) ∧ Ev (d + 1) 34 45 [l0, l1] [] (ab_wI σ s2 (va_cpy (σ.1 s4) (σ.1 s2) s3.toNatClampNeg s1.toNatClampNeg s0.toNatClampNeg)) Q) := ev_ac d34_42 rfl (Nat.le_of_ble_eq_true rfl) rfl rfl
theorem d34_45 : decode (ab_C 34) 45 = .ok (.aload_n 1, 1) := by decide +kernel
theorem e34_45 {d : Nat} {l0 : Option Value} {x : Nat} {σ : ab_St} {Q : Option Value → ab_St → Prop} : Ev d 34 45 [l0, some (.ref x)] [] σ Q = Ev d 34 46 [l0, some (.ref x)] [.ref x] σ Q := ev_A1 d34_45 rfl
theorem d34_46 : decode (ab_C 34) 46 = .ok (.getfield 21, 3) := by decide +kernel
theorem e34_46 {d : Nat} {l0 l1 : Option Value} {s0 : Nat} {σ : ab_St} {Q : Option Value → ab_St → Prop} : Ev d 34 46 [l0, l1] [.ref s0] σ Q = (ab_k s0 = 3 ∧ Ev d 34 49 [l0, l1] [.ref (ab_r s0 3)] σ Q) := ev_Hc (c := ab_k s0 = 3) d34_46 rfl rfl rfl rfl rfl rfl rfl rfl
theorem d34_49 : decode (ab_C 34) 49 = .ok (.iconst 0, 1) := by decide +kernel
theorem e34_49 {d : Nat} {l0 l1 : Option Value} {s0 : Nat} {σ : ab_St} {Q : Option Value → ab_St → Prop} : Ev d 34 49 [l0, l1] [.ref s0] σ Q = Ev d 34 50 [l0, l1] [.int 0, .ref s0] σ Q := ev_A1 d34_49 rfl
theorem d34_50 : decode (ab_C 34) 50 = .ok (.aload_n 0, 1) := by decide +kernel
theorem e34_50 {d : Nat} {l1 : Option Value} {x : Nat} {s0 : Int32} {s1 : Nat} {σ : ab_St} {Q : Option Value → ab_St → Prop} : Ev d 34 50 [some (.ref x), l1] [.int s0, .ref s1] σ Q = Ev d 34 51 [some (.ref x), l1] [.ref x, .int s0, .ref s1] σ Q := ev_A1 d34_50 rfl
theorem d34_51 : decode (ab_C 34) 51 = .ok (.getfield 21, 3) := by decide +kernel
theorem e34_51 {d : Nat} {l0 l1 : Option Value} {s0 : Nat} {s1 : Int32} {s2 : Nat} {σ : ab_St} {Q : Option Value → ab_St → Prop} : Ev d 34 51 [l0, l1] [.ref s0, .int s1, .ref s2] σ Q = (ab_k s0 = 3 ∧ Ev d 34 54 [l0, l1] [.ref (ab_r s0 3), .int s1, .ref s2] σ Q) := ev_Hc (c := ab_k s0 = 3) d34_51 rfl rfl rfl rfl rfl rfl rfl rfl
theorem d34_54 : decode (ab_C 34) 54 = .ok (.iconst 0, 1) := by decide +kernel
theorem e34_54 {d : Nat} {l0 l1 : Option Value} {s0 : Nat} {s1 : Int32} {s2 : Nat} {σ : ab_St} {Q : Option Value → ab_St → Prop} : Ev d 34 54 [l0, l1] [.ref s0, .int s1, .ref s2] σ Q = Ev d 34 55 [l0, l1] [.int 0, .ref s0, .int s1, .ref s2] σ Q := ev_A1 d34_54 rfl
theorem d34_55 : decode (ab_C 34) 55 = .ok (.bipush 8, 2) := by decide +kernel
theorem e34_55 {d : Nat} {l0 l1 : Option Value} {s0 : Int32} {s1 : Nat} {s2 : Int32} {s3 : Nat} {σ : ab_St} {Q : Option Value → ab_St → Prop} : Ev d 34 55 [l0, l1] [.int s0, .ref s1, .int s2, .ref s3] σ Q = Ev d 34 57 [l0, l1] [.int 8, .int s0, .ref s1, .int s2, .ref s3] σ Q := ev_A1 d34_55 rfl
theorem d34_57 : decode (ab_C 34) 57 = .ok (.invokestatic 24, 3) := by decide +kernel
theorem e34_57 {d : Nat} {l0 l1 : Option Value} {s0 : Int32} {s1 : Int32} {s2 : Nat} {s3 : Int32} {s4 : Nat} {σ : ab_St} {Q : Option Value → ab_St → Prop} : Ev (d + 1) 34 57 [l0, l1] [.int s0, .int s1, .ref s2, .int s3, .ref s4] σ Q = (((ab_k s4 = 100 ∧ ab_k s2 = 100) ∧ (¬ s3 < 0 ∧ ¬ s1 < 0 ∧ ¬ s0 < 0) ∧ s3.toNatClampNeg + s0.toNatClampNeg ≤ ab_n s4 ∧ s1.toNatClampNeg + s0.toNatClampNeg ≤ ab_n s2) ∧ Ev (d + 1) 34 60 [l0, l1] [] (ab_wI σ s2 (va_cpy (σ.1 s4) (σ.1 s2) s3.toNatClampNeg s1.toNatClampNeg s0.toNatClampNeg)) Q) := ev_ac d34_57 rfl (Nat.le_of_ble_eq_true rfl) rfl rfl
theorem d34_60 : decode (ab_C 34) 60 = .ok (.aload_n 0, 1) := by decide +kernel
theorem e34_60 {d : Nat} {l1 : Option Value} {x : Nat} {σ : ab_St} {Q : Option Value → ab_St → Prop} : Ev d 34 60 [some (.ref x), l1] [] σ Q = Ev d 34 61 [some (.ref x), l1] [.ref x] σ Q := ev_A1 d34_60 rfl
theorem d34_61 : decode (ab_C 34) 61 = .ok (.aload_n 1, 1) := by decide +kernel
theorem e34_61 {d : Nat} {l0 : Option Value} {x : Nat} {s0 : Nat} {σ : ab_St} {Q : Option Value → ab_St → Prop} : Ev d 34 61 [l0, some (.ref x)] [.ref s0] σ Q = Ev d 34 62 [l0, some (.ref x)] [.ref x, .ref s0] σ Q := ev_A1 d34_61 rfl
theorem d34_62 : decode (ab_C 34) 62 = .ok (.getfield 30, 3) := by decide +kernel
theorem e34_62 {d : Nat} {l0 l1 : Option Value} {s0 : Nat} {s1 : Nat} {σ : ab_St} {Q : Option Value → ab_St → Prop} : Ev d 34 62 [l0, l1] [.ref s0, .ref s1] σ Q = (ab_k s0 = 3 ∧ Ev d 34 65 [l0, l1] [.int (σ.1 s0 4), .ref s1] σ Q) := ev_Hc (c := ab_k s0 = 3) d34_62 rfl rfl rfl rfl rfl rfl rfl rfl
theorem d34_65 : decode (ab_C 34) 65 = .ok (.putfield 30, 3) := by decide +kernel
theorem e34_65 {d : Nat} {l0 l1 : Option Value} {s0 : Int32} {s1 : Nat} {σ : ab_St} {Q : Option Value → ab_St → Prop} : Ev d 34 65 [l0, l1] [.int s0, .ref s1] σ Q = (ab_k s1 = 3 ∧ Ev d 34 68 [l0, l1] [] (ab_wI σ s1 (upd (σ.1 s1) 4 s0)) Q) := ev_Hc (c := ab_k s1 = 3) d34_65 rfl rfl rfl rfl rfl rfl rfl rfl
theorem d34_68 : decode (ab_C 34) 68 = .ok (.aload_n 0, 1) := by decide +kernel
theorem e34_68 {d : Nat} {l1 : Option Value} {x : Nat} {σ : ab_St} {Q : Option Value → ab_St → Prop} : Ev d 34 68 [some (.ref x), l1] [] σ Q = Ev d 34 69 [some (.ref x), l1] [.ref x] σ Q := ev_A1 d34_68 rfl
theorem d34_69 : decode (ab_C 34) 69 = .ok (.aload_n 1, 1) := by decide +kernel
theorem e34_69 {d : Nat} {l0 : Option Value} {x : Nat} {s0 : Nat} {σ : ab_St} {Q : Option Value → ab_St → Prop} : Ev d 34 69 [l0, some (.ref x)] [.ref s0] σ Q = Ev d 34 70 [l0, some (.ref x)] [.ref x, .ref s0] σ Q := ev_A1 d34_69 rfl
theorem d34_70 : decode (ab_C 34) 70 = .ok (.getfield 34, 3) := by decide +kernel
theorem e34_70 {d : Nat} {l0 l1 : Option Value} {s0 : Nat} {s1 : Nat} {σ : ab_St} {Q : Option Value → ab_St → Prop} : Ev d 34 70 [l0, l1] [.ref s0, .ref s1] σ Q = (ab_k s0 = 3 ∧ Ev d 34 73 [l0, l1] [.int (σ.1 s0 5), .ref s1] σ Q) := ev_Hc (c := ab_k s0 = 3) d34_70 rfl rfl rfl rfl rfl rfl rfl rfl
theorem d34_73 : decode (ab_C 34) 73 = .ok (.putfield 34, 3) := by decide +kernel
theorem e34_73 {d : Nat} {l0 l1 : Option Value} {s0 : Int32} {s1 : Nat} {σ : ab_St} {Q : Option Value → ab_St → Prop} : Ev d 34 73 [l0, l1] [.int s0, .ref s1] σ Q = (ab_k s1 = 3 ∧ Ev d 34 76 [l0, l1] [] (ab_wI σ s1 (upd (σ.1 s1) 5 s0)) Q) := ev_Hc (c := ab_k s1 = 3) d34_73 rfl rfl rfl rfl rfl rfl rfl rfl
theorem d34_76 : decode (ab_C 34) 76 = .ok (.return_, 1) := by decide +kernel
theorem e34_76 {d : Nat} {l0 l1 : Option Value} {σ : ab_St} {Q : Option Value → ab_St → Prop} : Ev d 34 76 [l0, l1] [] σ Q = Q none σ := ev_E d34_76 rfl rfl rfl rfl rfl rfl rfl
/-! SaidLeast$State.copyFrom(LSaidLeast$State;)V -/
theorem d35_0 : decode (ab_C 35) 0 = .ok (.aload_n 1, 1) := by decide +kernel
theorem e35_0 {d : Nat} {l0 : Option Value} {x : Nat} {σ : ab_St} {Q : Option Value → ab_St → Prop} : Ev d 35 0 [l0, some (.ref x)] [] σ Q = Ev d 35 1 [l0, some (.ref x)] [.ref x] σ Q := ev_A1 d35_0 rfl
theorem d35_1 : decode (ab_C 35) 1 = .ok (.getfield 9, 3) := by decide +kernel
theorem e35_1 {d : Nat} {l0 l1 : Option Value} {s0 : Nat} {σ : ab_St} {Q : Option Value → ab_St → Prop} : Ev d 35 1 [l0, l1] [.ref s0] σ Q = (ab_k s0 = 4 ∧ Ev d 35 4 [l0, l1] [.ref (ab_r s0 0)] σ Q) := ev_Hc (c := ab_k s0 = 4) d35_1 rfl rfl rfl rfl rfl rfl rfl rfl
theorem d35_4 : decode (ab_C 35) 4 = .ok (.iconst 0, 1) := by decide +kernel
theorem e35_4 {d : Nat} {l0 l1 : Option Value} {s0 : Nat} {σ : ab_St} {Q : Option Value → ab_St → Prop} : Ev d 35 4 [l0, l1] [.ref s0] σ Q = Ev d 35 5 [l0, l1] [.int 0, .ref s0] σ Q := ev_A1 d35_4 rfl
theorem d35_5 : decode (ab_C 35) 5 = .ok (.aload_n 0, 1) := by decide +kernel
theorem e35_5 {d : Nat} {l1 : Option Value} {x : Nat} {s0 : Int32} {s1 : Nat} {σ : ab_St} {Q : Option Value → ab_St → Prop} : Ev d 35 5 [some (.ref x), l1] [.int s0, .ref s1] σ Q = Ev d 35 6 [some (.ref x), l1] [.ref x, .int s0, .ref s1] σ Q := ev_A1 d35_5 rfl
theorem d35_6 : decode (ab_C 35) 6 = .ok (.getfield 9, 3) := by decide +kernel
theorem e35_6 {d : Nat} {l0 l1 : Option Value} {s0 : Nat} {s1 : Int32} {s2 : Nat} {σ : ab_St} {Q : Option Value → ab_St → Prop} : Ev d 35 6 [l0, l1] [.ref s0, .int s1, .ref s2] σ Q = (ab_k s0 = 4 ∧ Ev d 35 9 [l0, l1] [.ref (ab_r s0 0), .int s1, .ref s2] σ Q) := ev_Hc (c := ab_k s0 = 4) d35_6 rfl rfl rfl rfl rfl rfl rfl rfl
theorem d35_9 : decode (ab_C 35) 9 = .ok (.iconst 0, 1) := by decide +kernel
theorem e35_9 {d : Nat} {l0 l1 : Option Value} {s0 : Nat} {s1 : Int32} {s2 : Nat} {σ : ab_St} {Q : Option Value → ab_St → Prop} : Ev d 35 9 [l0, l1] [.ref s0, .int s1, .ref s2] σ Q = Ev d 35 10 [l0, l1] [.int 0, .ref s0, .int s1, .ref s2] σ Q := ev_A1 d35_9 rfl
theorem d35_10 : decode (ab_C 35) 10 = .ok (.bipush 6, 2) := by decide +kernel
theorem e35_10 {d : Nat} {l0 l1 : Option Value} {s0 : Int32} {s1 : Nat} {s2 : Int32} {s3 : Nat} {σ : ab_St} {Q : Option Value → ab_St → Prop} : Ev d 35 10 [l0, l1] [.int s0, .ref s1, .int s2, .ref s3] σ Q = Ev d 35 12 [l0, l1] [.int 6, .int s0, .ref s1, .int s2, .ref s3] σ Q := ev_A1 d35_10 rfl
theorem d35_12 : decode (ab_C 35) 12 = .ok (.invokestatic 19, 3) := by decide +kernel
theorem e35_12 {d : Nat} {l0 l1 : Option Value} {s0 : Int32} {s1 : Int32} {s2 : Nat} {s3 : Int32} {s4 : Nat} {σ : ab_St} {Q : Option Value → ab_St → Prop} : Ev (d + 1) 35 12 [l0, l1] [.int s0, .int s1, .ref s2, .int s3, .ref s4] σ Q = (((ab_k s4 = 100 ∧ ab_k s2 = 100) ∧ (¬ s3 < 0 ∧ ¬ s1 < 0 ∧ ¬ s0 < 0) ∧ s3.toNatClampNeg + s0.toNatClampNeg ≤ ab_n s4 ∧ s1.toNatClampNeg + s0.toNatClampNeg ≤ ab_n s2) ∧ Ev (d + 1) 35 15 [l0, l1] [] (ab_wI σ s2 (va_cpy (σ.1 s4) (σ.1 s2) s3.toNatClampNeg s1.toNatClampNeg s0.toNatClampNeg)) Q) := ev_ac d35_12 rfl (Nat.le_of_ble_eq_true rfl) rfl rfl
theorem d35_15 : decode (ab_C 35) 15 = .ok (.aload_n 0, 1) := by decide +kernel
theorem e35_15 {d : Nat} {l1 : Option Value} {x : Nat} {σ : ab_St} {Q : Option Value → ab_St → Prop} : Ev d 35 15 [some (.ref x), l1] [] σ Q = Ev d 35 16 [some (.ref x), l1] [.ref x] σ Q := ev_A1 d35_15 rfl
theorem d35_16 : decode (ab_C 35) 16 = .ok (.aload_n 1, 1) := by decide +kernel
theorem e35_16 {d : Nat} {l0 : Option Value} {x : Nat} {s0 : Nat} {σ : ab_St} {Q : Option Value → ab_St → Prop} : Ev d 35 16 [l0, some (.ref x)] [.ref s0] σ Q = Ev d 35 17 [l0, some (.ref x)] [.ref x, .ref s0] σ Q := ev_A1 d35_16 rfl
theorem d35_17 : decode (ab_C 35) 17 = .ok (.getfield 25, 3) := by decide +kernel
theorem e35_17 {d : Nat} {l0 l1 : Option Value} {s0 : Nat} {s1 : Nat} {σ : ab_St} {Q : Option Value → ab_St → Prop} : Ev d 35 17 [l0, l1] [.ref s0, .ref s1] σ Q = (ab_k s0 = 4 ∧ Ev d 35 20 [l0, l1] [.int (σ.1 s0 1), .ref s1] σ Q) := ev_Hc (c := ab_k s0 = 4) d35_17 rfl rfl rfl rfl rfl rfl rfl rfl
theorem d35_20 : decode (ab_C 35) 20 = .ok (.putfield 25, 3) := by decide +kernel
theorem e35_20 {d : Nat} {l0 l1 : Option Value} {s0 : Int32} {s1 : Nat} {σ : ab_St} {Q : Option Value → ab_St → Prop} : Ev d 35 20 [l0, l1] [.int s0, .ref s1] σ Q = (ab_k s1 = 4 ∧ Ev d 35 23 [l0, l1] [] (ab_wI σ s1 (upd (σ.1 s1) 1 s0)) Q) := ev_Hc (c := ab_k s1 = 4) d35_20 rfl rfl rfl rfl rfl rfl rfl rfl
theorem d35_23 : decode (ab_C 35) 23 = .ok (.aload_n 0, 1) := by decide +kernel
theorem e35_23 {d : Nat} {l1 : Option Value} {x : Nat} {σ : ab_St} {Q : Option Value → ab_St → Prop} : Ev d 35 23 [some (.ref x), l1] [] σ Q = Ev d 35 24 [some (.ref x), l1] [.ref x] σ Q := ev_A1 d35_23 rfl
theorem d35_24 : decode (ab_C 35) 24 = .ok (.aload_n 1, 1) := by decide +kernel
theorem e35_24 {d : Nat} {l0 : Option Value} {x : Nat} {s0 : Nat} {σ : ab_St} {Q : Option Value → ab_St → Prop} : Ev d 35 24 [l0, some (.ref x)] [.ref s0] σ Q = Ev d 35 25 [l0, some (.ref x)] [.ref x, .ref s0] σ Q := ev_A1 d35_24 rfl
theorem d35_25 : decode (ab_C 35) 25 = .ok (.getfield 28, 3) := by decide +kernel
theorem e35_25 {d : Nat} {l0 l1 : Option Value} {s0 : Nat} {s1 : Nat} {σ : ab_St} {Q : Option Value → ab_St → Prop} : Ev d 35 25 [l0, l1] [.ref s0, .ref s1] σ Q = (ab_k s0 = 4 ∧ Ev d 35 28 [l0, l1] [.int (σ.1 s0 2), .ref s1] σ Q) := ev_Hc (c := ab_k s0 = 4) d35_25 rfl rfl rfl rfl rfl rfl rfl rfl
theorem d35_28 : decode (ab_C 35) 28 = .ok (.putfield 28, 3) := by decide +kernel
theorem e35_28 {d : Nat} {l0 l1 : Option Value} {s0 : Int32} {s1 : Nat} {σ : ab_St} {Q : Option Value → ab_St → Prop} : Ev d 35 28 [l0, l1] [.int s0, .ref s1] σ Q = (ab_k s1 = 4 ∧ Ev d 35 31 [l0, l1] [] (ab_wI σ s1 (upd (σ.1 s1) 2 s0)) Q) := ev_Hc (c := ab_k s1 = 4) d35_28 rfl rfl rfl rfl rfl rfl rfl rfl
theorem d35_31 : decode (ab_C 35) 31 = .ok (.aload_n 0, 1) := by decide +kernel
theorem e35_31 {d : Nat} {l1 : Option Value} {x : Nat} {σ : ab_St} {Q : Option Value → ab_St → Prop} : Ev d 35 31 [some (.ref x), l1] [] σ Q = Ev d 35 32 [some (.ref x), l1] [.ref x] σ Q := ev_A1 d35_31 rfl
theorem d35_32 : decode (ab_C 35) 32 = .ok (.aload_n 1, 1) := by decide +kernel
theorem e35_32 {d : Nat} {l0 : Option Value} {x : Nat} {s0 : Nat} {σ : ab_St} {Q : Option Value → ab_St → Prop} : Ev d 35 32 [l0, some (.ref x)] [.ref s0] σ Q = Ev d 35 33 [l0, some (.ref x)] [.ref x, .ref s0] σ Q := ev_A1 d35_32 rfl
theorem d35_33 : decode (ab_C 35) 33 = .ok (.getfield 15, 3) := by decide +kernel
theorem e35_33 {d : Nat} {l0 l1 : Option Value} {s0 : Nat} {s1 : Nat} {σ : ab_St} {Q : Option Value → ab_St → Prop} : Ev d 35 33 [l0, l1] [.ref s0, .ref s1] σ Q = (ab_k s0 = 4 ∧ Ev d 35 36 [l0, l1] [.int (σ.1 s0 3), .ref s1] σ Q) := ev_Hc (c := ab_k s0 = 4) d35_33 rfl rfl rfl rfl rfl rfl rfl rfl
theorem d35_36 : decode (ab_C 35) 36 = .ok (.putfield 15, 3) := by decide +kernel
theorem e35_36 {d : Nat} {l0 l1 : Option Value} {s0 : Int32} {s1 : Nat} {σ : ab_St} {Q : Option Value → ab_St → Prop} : Ev d 35 36 [l0, l1] [.int s0, .ref s1] σ Q = (ab_k s1 = 4 ∧ Ev d 35 39 [l0, l1] [] (ab_wI σ s1 (upd (σ.1 s1) 3 s0)) Q) := ev_Hc (c := ab_k s1 = 4) d35_36 rfl rfl rfl rfl rfl rfl rfl rfl
theorem d35_39 : decode (ab_C 35) 39 = .ok (.aload_n 0, 1) := by decide +kernel
theorem e35_39 {d : Nat} {l1 : Option Value} {x : Nat} {σ : ab_St} {Q : Option Value → ab_St → Prop} : Ev d 35 39 [some (.ref x), l1] [] σ Q = Ev d 35 40 [some (.ref x), l1] [.ref x] σ Q := ev_A1 d35_39 rfl
theorem d35_40 : decode (ab_C 35) 40 = .ok (.aload_n 1, 1) := by decide +kernel
theorem e35_40 {d : Nat} {l0 : Option Value} {x : Nat} {s0 : Nat} {σ : ab_St} {Q : Option Value → ab_St → Prop} : Ev d 35 40 [l0, some (.ref x)] [.ref s0] σ Q = Ev d 35 41 [l0, some (.ref x)] [.ref x, .ref s0] σ Q := ev_A1 d35_40 rfl
theorem d35_41 : decode (ab_C 35) 41 = .ok (.getfield 31, 3) := by decide +kernel
theorem e35_41 {d : Nat} {l0 l1 : Option Value} {s0 : Nat} {s1 : Nat} {σ : ab_St} {Q : Option Value → ab_St → Prop} : Ev d 35 41 [l0, l1] [.ref s0, .ref s1] σ Q = (ab_k s0 = 4 ∧ Ev d 35 44 [l0, l1] [.int (σ.1 s0 4), .ref s1] σ Q) := ev_Hc (c := ab_k s0 = 4) d35_41 rfl rfl rfl rfl rfl rfl rfl rfl
theorem d35_44 : decode (ab_C 35) 44 = .ok (.putfield 31, 3) := by decide +kernel
theorem e35_44 {d : Nat} {l0 l1 : Option Value} {s0 : Int32} {s1 : Nat} {σ : ab_St} {Q : Option Value → ab_St → Prop} : Ev d 35 44 [l0, l1] [.int s0, .ref s1] σ Q = (ab_k s1 = 4 ∧ Ev d 35 47 [l0, l1] [] (ab_wI σ s1 (upd (σ.1 s1) 4 s0)) Q) := ev_Hc (c := ab_k s1 = 4) d35_44 rfl rfl rfl rfl rfl rfl rfl rfl
theorem d35_47 : decode (ab_C 35) 47 = .ok (.return_, 1) := by decide +kernel
theorem e35_47 {d : Nat} {l0 l1 : Option Value} {σ : ab_St} {Q : Option Value → ab_St → Prop} : Ev d 35 47 [l0, l1] [] σ Q = Q none σ := ev_E d35_47 rfl rfl rfl rfl rfl rfl rfl
