/-! SaidLeastModel.keep(I)I -/
theorem d147_0 : decode (ab_C 147) 0 = .ok (.aload_n 0, 1) := by decide +kernel
theorem e147_0 {d : Nat} {l1 : Option Value} {x : Nat} {σ : ab_St} {Q : Option Value → ab_St → Prop} : Ev d 147 0 [some (.ref x), l1] [] σ Q = Ev d 147 1 [some (.ref x), l1] [.ref x] σ Q := ev_A1 d147_0 rfl
theorem d147_1 : decode (ab_C 147) 1 = .ok (.iconst 0, 1) := by decide +kernel
theorem e147_1 {d : Nat} {l0 l1 : Option Value} {s0 : Nat} {σ : ab_St} {Q : Option Value → ab_St → Prop} : Ev d 147 1 [l0, l1] [.ref s0] σ Q = Ev d 147 2 [l0, l1] [.int 0, .ref s0] σ Q := ev_A1 d147_1 rfl
theorem d147_2 : decode (ab_C 147) 2 = .ok (.putfield 79, 3) := by decide +kernel
theorem e147_2 {d : Nat} {l0 l1 : Option Value} {s0 : Int32} {s1 : Nat} {σ : ab_St} {Q : Option Value → ab_St → Prop} : Ev d 147 2 [l0, l1] [.int s0, .ref s1] σ Q = (ab_k s1 = 10 ∧ Ev d 147 5 [l0, l1] [] (ab_wI σ s1 (upd (σ.1 s1) 0 s0)) Q) := ev_Hc (c := ab_k s1 = 10) d147_2 rfl rfl rfl rfl rfl rfl rfl rfl
theorem d147_5 : decode (ab_C 147) 5 = .ok (.iload_n 1, 1) := by decide +kernel
theorem e147_5 {d : Nat} {l0 : Option Value} {x : Int32} {σ : ab_St} {Q : Option Value → ab_St → Prop} : Ev d 147 5 [l0, some (.int x)] [] σ Q = Ev d 147 6 [l0, some (.int x)] [.int x] σ Q := ev_A1 d147_5 rfl
theorem d147_6 : decode (ab_C 147) 6 = .ok (.i2l, 1) := by decide +kernel
theorem e147_6 {d : Nat} {l0 l1 : Option Value} {s0 : Int32} {σ : ab_St} {Q : Option Value → ab_St → Prop} : Ev d 147 6 [l0, l1] [.int s0] σ Q = Ev d 147 7 [l0, l1] [.long s0.toInt64] σ Q := ev_A2 d147_6 rfl rfl
theorem d147_7 : decode (ab_C 147) 7 = .ok (.lconst 0, 1) := by decide +kernel
theorem e147_7 {d : Nat} {l0 l1 : Option Value} {s0 : Int64} {σ : ab_St} {Q : Option Value → ab_St → Prop} : Ev d 147 7 [l0, l1] [.long s0] σ Q = Ev d 147 8 [l0, l1] [.long 0, .long s0] σ Q := ev_A1 d147_7 rfl
theorem d147_8 : decode (ab_C 147) 8 = .ok (.lconst 1, 1) := by decide +kernel
theorem e147_8 {d : Nat} {l0 l1 : Option Value} {s0 : Int64} {s1 : Int64} {σ : ab_St} {Q : Option Value → ab_St → Prop} : Ev d 147 8 [l0, l1] [.long s0, .long s1] σ Q = Ev d 147 9 [l0, l1] [.long 1, .long s0, .long s1] σ Q := ev_A1 d147_8 rfl
theorem d147_9 : decode (ab_C 147) 9 = .ok (.invokestatic 85, 3) := by decide +kernel
theorem e147_9 {d : Nat} {l0 l1 : Option Value} {s0 : Int64} {s1 : Int64} {s2 : Int64} {σ : ab_St} {Q : Option Value → ab_St → Prop} : Ev (d + 1) 147 9 [l0, l1] [.long s0, .long s1, .long s2] σ Q = Ev d 101 0 [some (.long s2), none, some (.long s1), none, some (.long s0), none] [] σ (fun r σ2 => Ev (d + 1) 147 12 [l0, l1] (r.toList ++ []) σ2 Q) := ev_K0 (y := 101) (ls := [l0, l1]) (st := [.long s0, .long s1, .long s2]) (as := [.long s2, .long s1, .long s0]) (rest := []) d147_9 rfl rfl rfl rfl rfl rfl rfl rfl
theorem d147_12 : decode (ab_C 147) 12 = .ok (.ifCond .ne 5, 3) := by decide +kernel
theorem e147_12 {d : Nat} {l0 l1 : Option Value} {s0 : Int32} {σ : ab_St} {Q : Option Value → ab_St → Prop} : Ev d 147 12 [l0, l1] [.int s0] σ Q = if s0 = 0 then Ev d 147 15 [l0, l1] [] σ Q else Ev d 147 17 [l0, l1] [] σ Q := ev_B (c := s0 = 0) d147_12 rfl rfl rfl rfl rfl
theorem d147_15 : decode (ab_C 147) 15 = .ok (.iconst (-1), 1) := by decide +kernel
theorem e147_15 {d : Nat} {l0 l1 : Option Value} {σ : ab_St} {Q : Option Value → ab_St → Prop} : Ev d 147 15 [l0, l1] [] σ Q = Ev d 147 16 [l0, l1] [.int (-1)] σ Q := ev_A1 d147_15 rfl
theorem d147_16 : decode (ab_C 147) 16 = .ok (.ireturn, 1) := by decide +kernel
theorem e147_16 {d : Nat} {l0 l1 : Option Value} {s0 : Int32} {σ : ab_St} {Q : Option Value → ab_St → Prop} : Ev d 147 16 [l0, l1] [.int s0] σ Q = Q (some (.int s0)) σ := ev_E d147_16 rfl rfl rfl rfl rfl rfl rfl
theorem d147_17 : decode (ab_C 147) 17 = .ok (.aload_n 0, 1) := by decide +kernel
theorem e147_17 {d : Nat} {l1 : Option Value} {x : Nat} {σ : ab_St} {Q : Option Value → ab_St → Prop} : Ev d 147 17 [some (.ref x), l1] [] σ Q = Ev d 147 18 [some (.ref x), l1] [.ref x] σ Q := ev_A1 d147_17 rfl
theorem d147_18 : decode (ab_C 147) 18 = .ok (.getfield 53, 3) := by decide +kernel
theorem e147_18 {d : Nat} {l0 l1 : Option Value} {s0 : Nat} {σ : ab_St} {Q : Option Value → ab_St → Prop} : Ev d 147 18 [l0, l1] [.ref s0] σ Q = (ab_k s0 = 10 ∧ Ev d 147 21 [l0, l1] [.ref (ab_r s0 27)] σ Q) := ev_Hc (c := ab_k s0 = 10) d147_18 rfl rfl rfl rfl rfl rfl rfl rfl
theorem d147_21 : decode (ab_C 147) 21 = .ok (.iload_n 1, 1) := by decide +kernel
theorem e147_21 {d : Nat} {l0 : Option Value} {x : Int32} {s0 : Nat} {σ : ab_St} {Q : Option Value → ab_St → Prop} : Ev d 147 21 [l0, some (.int x)] [.ref s0] σ Q = Ev d 147 22 [l0, some (.int x)] [.int x, .ref s0] σ Q := ev_A1 d147_21 rfl
theorem d147_22 : decode (ab_C 147) 22 = .ok (.iconst 1, 1) := by decide +kernel
theorem e147_22 {d : Nat} {l0 l1 : Option Value} {s0 : Int32} {s1 : Nat} {σ : ab_St} {Q : Option Value → ab_St → Prop} : Ev d 147 22 [l0, l1] [.int s0, .ref s1] σ Q = Ev d 147 23 [l0, l1] [.int 1, .int s0, .ref s1] σ Q := ev_A1 d147_22 rfl
theorem d147_23 : decode (ab_C 147) 23 = .ok (.bastore, 1) := by decide +kernel
theorem e147_23 {d : Nat} {l0 l1 : Option Value} {s0 : Int32} {s1 : Int32} {s2 : Nat} {σ : ab_St} {Q : Option Value → ab_St → Prop} : Ev d 147 23 [l0, l1] [.int s0, .int s1, .ref s2] σ Q = if ab_k s2 = 101 ∧ ab_in s1 (ab_n s2) then Ev d 147 24 [l0, l1] [] (ab_wI σ s2 (upd (σ.1 s2) s1.toNatClampNeg (vp_nar .byte s0))) Q else ((ab_k s2 = 102 ∧ ab_in s1 (ab_n s2)) ∧ Ev d 147 24 [l0, l1] [] (ab_wI σ s2 (upd (σ.1 s2) s1.toNatClampNeg (vp_nar .boolean s0))) Q) := ev_bast (j := 0) d147_23 
theorem d147_24 : decode (ab_C 147) 24 = .ok (.aload_n 0, 1) := by decide +kernel
theorem e147_24 {d : Nat} {l1 : Option Value} {x : Nat} {σ : ab_St} {Q : Option Value → ab_St → Prop} : Ev d 147 24 [some (.ref x), l1] [] σ Q = Ev d 147 25 [some (.ref x), l1] [.ref x] σ Q := ev_A1 d147_24 rfl
theorem d147_25 : decode (ab_C 147) 25 = .ok (.aload_n 0, 1) := by decide +kernel
theorem e147_25 {d : Nat} {l1 : Option Value} {x : Nat} {s0 : Nat} {σ : ab_St} {Q : Option Value → ab_St → Prop} : Ev d 147 25 [some (.ref x), l1] [.ref s0] σ Q = Ev d 147 26 [some (.ref x), l1] [.ref x, .ref s0] σ Q := ev_A1 d147_25 rfl
theorem d147_26 : decode (ab_C 147) 26 = .ok (.getfield 50, 3) := by decide +kernel
theorem e147_26 {d : Nat} {l0 l1 : Option Value} {s0 : Nat} {s1 : Nat} {σ : ab_St} {Q : Option Value → ab_St → Prop} : Ev d 147 26 [l0, l1] [.ref s0, .ref s1] σ Q = (ab_k s0 = 10 ∧ Ev d 147 29 [l0, l1] [.ref (ab_r s0 26), .ref s1] σ Q) := ev_Hc (c := ab_k s0 = 10) d147_26 rfl rfl rfl rfl rfl rfl rfl rfl
theorem d147_29 : decode (ab_C 147) 29 = .ok (.bipush 16, 2) := by decide +kernel
theorem e147_29 {d : Nat} {l0 l1 : Option Value} {s0 : Nat} {s1 : Nat} {σ : ab_St} {Q : Option Value → ab_St → Prop} : Ev d 147 29 [l0, l1] [.ref s0, .ref s1] σ Q = Ev d 147 31 [l0, l1] [.int 16, .ref s0, .ref s1] σ Q := ev_A1 d147_29 rfl
theorem d147_31 : decode (ab_C 147) 31 = .ok (.iload_n 1, 1) := by decide +kernel
theorem e147_31 {d : Nat} {l0 : Option Value} {x : Int32} {s0 : Int32} {s1 : Nat} {s2 : Nat} {σ : ab_St} {Q : Option Value → ab_St → Prop} : Ev d 147 31 [l0, some (.int x)] [.int s0, .ref s1, .ref s2] σ Q = Ev d 147 32 [l0, some (.int x)] [.int x, .int s0, .ref s1, .ref s2] σ Q := ev_A1 d147_31 rfl
theorem d147_32 : decode (ab_C 147) 32 = .ok (.imul, 1) := by decide +kernel
theorem e147_32 {d : Nat} {l0 l1 : Option Value} {s0 : Int32} {s1 : Int32} {s2 : Nat} {s3 : Nat} {σ : ab_St} {Q : Option Value → ab_St → Prop} : Ev d 147 32 [l0, l1] [.int s0, .int s1, .ref s2, .ref s3] σ Q = Ev d 147 33 [l0, l1] [.int (s1 * s0), .ref s2, .ref s3] σ Q := ev_A2 d147_32 rfl rfl
theorem d147_33 : decode (ab_C 147) 33 = .ok (.invokevirtual 178, 3) := by decide +kernel
theorem e147_33 {d : Nat} {l0 l1 : Option Value} {s0 : Int32} {s1 : Nat} {s2 : Nat} {σ : ab_St} {Q : Option Value → ab_St → Prop} : Ev (d + 1) 147 33 [l0, l1] [.int s0, .ref s1, .ref s2] σ Q = (ab_k s2 = 10 ∧ Ev d 125 0 [some (.ref s2), some (.ref s1), some (.int s0), none] [] σ (fun r σ2 => Ev (d + 1) 147 36 [l0, l1] (r.toList ++ []) σ2 Q)) := ev_KV (b := s2) (ls := [l0, l1]) (st := [.int s0, .ref s1, .ref s2]) (as := [.ref s1, .int s0]) (rest := []) d147_33 rfl rfl rfl (Nat.le_of_ble_eq_true rfl) (Nat.le_of_ble_eq_true rfl) (Nat.le_of_ble_eq_true rfl) rfl rfl rfl rfl rfl rfl rfl
theorem d147_36 : decode (ab_C 147) 36 = .ok (.aload_n 0, 1) := by decide +kernel
theorem e147_36 {d : Nat} {l1 : Option Value} {x : Nat} {σ : ab_St} {Q : Option Value → ab_St → Prop} : Ev d 147 36 [some (.ref x), l1] [] σ Q = Ev d 147 37 [some (.ref x), l1] [.ref x] σ Q := ev_A1 d147_36 rfl
theorem d147_37 : decode (ab_C 147) 37 = .ok (.getfield 50, 3) := by decide +kernel
theorem e147_37 {d : Nat} {l0 l1 : Option Value} {s0 : Nat} {σ : ab_St} {Q : Option Value → ab_St → Prop} : Ev d 147 37 [l0, l1] [.ref s0] σ Q = (ab_k s0 = 10 ∧ Ev d 147 40 [l0, l1] [.ref (ab_r s0 26)] σ Q) := ev_Hc (c := ab_k s0 = 10) d147_37 rfl rfl rfl rfl rfl rfl rfl rfl
theorem d147_40 : decode (ab_C 147) 40 = .ok (.bipush 16, 2) := by decide +kernel
theorem e147_40 {d : Nat} {l0 l1 : Option Value} {s0 : Nat} {σ : ab_St} {Q : Option Value → ab_St → Prop} : Ev d 147 40 [l0, l1] [.ref s0] σ Q = Ev d 147 42 [l0, l1] [.int 16, .ref s0] σ Q := ev_A1 d147_40 rfl
theorem d147_42 : decode (ab_C 147) 42 = .ok (.iload_n 1, 1) := by decide +kernel
theorem e147_42 {d : Nat} {l0 : Option Value} {x : Int32} {s0 : Int32} {s1 : Nat} {σ : ab_St} {Q : Option Value → ab_St → Prop} : Ev d 147 42 [l0, some (.int x)] [.int s0, .ref s1] σ Q = Ev d 147 43 [l0, some (.int x)] [.int x, .int s0, .ref s1] σ Q := ev_A1 d147_42 rfl
theorem d147_43 : decode (ab_C 147) 43 = .ok (.imul, 1) := by decide +kernel
theorem e147_43 {d : Nat} {l0 l1 : Option Value} {s0 : Int32} {s1 : Int32} {s2 : Nat} {σ : ab_St} {Q : Option Value → ab_St → Prop} : Ev d 147 43 [l0, l1] [.int s0, .int s1, .ref s2] σ Q = Ev d 147 44 [l0, l1] [.int (s1 * s0), .ref s2] σ Q := ev_A2 d147_43 rfl rfl
theorem d147_44 : decode (ab_C 147) 44 = .ok (.bipush 9, 2) := by decide +kernel
theorem e147_44 {d : Nat} {l0 l1 : Option Value} {s0 : Int32} {s1 : Nat} {σ : ab_St} {Q : Option Value → ab_St → Prop} : Ev d 147 44 [l0, l1] [.int s0, .ref s1] σ Q = Ev d 147 46 [l0, l1] [.int 9, .int s0, .ref s1] σ Q := ev_A1 d147_44 rfl
theorem d147_46 : decode (ab_C 147) 46 = .ok (.iadd, 1) := by decide +kernel
theorem e147_46 {d : Nat} {l0 l1 : Option Value} {s0 : Int32} {s1 : Int32} {s2 : Nat} {σ : ab_St} {Q : Option Value → ab_St → Prop} : Ev d 147 46 [l0, l1] [.int s0, .int s1, .ref s2] σ Q = Ev d 147 47 [l0, l1] [.int (s1 + s0), .ref s2] σ Q := ev_A2 d147_46 rfl rfl
theorem d147_47 : decode (ab_C 147) 47 = .ok (.aload_n 0, 1) := by decide +kernel
theorem e147_47 {d : Nat} {l1 : Option Value} {x : Nat} {s0 : Int32} {s1 : Nat} {σ : ab_St} {Q : Option Value → ab_St → Prop} : Ev d 147 47 [some (.ref x), l1] [.int s0, .ref s1] σ Q = Ev d 147 48 [some (.ref x), l1] [.ref x, .int s0, .ref s1] σ Q := ev_A1 d147_47 rfl
theorem d147_48 : decode (ab_C 147) 48 = .ok (.getfield 135, 3) := by decide +kernel
theorem e147_48 {d : Nat} {l0 l1 : Option Value} {s0 : Nat} {s1 : Int32} {s2 : Nat} {σ : ab_St} {Q : Option Value → ab_St → Prop} : Ev d 147 48 [l0, l1] [.ref s0, .int s1, .ref s2] σ Q = (ab_k s0 = 10 ∧ Ev d 147 51 [l0, l1] [.int (σ.1 s0 4), .int s1, .ref s2] σ Q) := ev_Hc (c := ab_k s0 = 10) d147_48 rfl rfl rfl rfl rfl rfl rfl rfl
theorem d147_51 : decode (ab_C 147) 51 = .ok (.iastore, 1) := by decide +kernel
theorem e147_51 {d : Nat} {l0 l1 : Option Value} {s0 : Int32} {s1 : Int32} {s2 : Nat} {σ : ab_St} {Q : Option Value → ab_St → Prop} : Ev d 147 51 [l0, l1] [.int s0, .int s1, .ref s2] σ Q = ((ab_k s2 = 100 ∧ ab_in s1 (ab_n s2)) ∧ Ev d 147 52 [l0, l1] [] (ab_wI σ s2 (upd (σ.1 s2) s1.toNatClampNeg s0)) Q) := ev_Hc (c := ab_k s2 = 100 ∧ ab_in s1 (ab_n s2)) d147_51 rfl rfl rfl rfl rfl rfl rfl rfl
theorem d147_52 : decode (ab_C 147) 52 = .ok (.aload_n 0, 1) := by decide +kernel
theorem e147_52 {d : Nat} {l1 : Option Value} {x : Nat} {σ : ab_St} {Q : Option Value → ab_St → Prop} : Ev d 147 52 [some (.ref x), l1] [] σ Q = Ev d 147 53 [some (.ref x), l1] [.ref x] σ Q := ev_A1 d147_52 rfl
theorem d147_53 : decode (ab_C 147) 53 = .ok (.getfield 138, 3) := by decide +kernel
theorem e147_53 {d : Nat} {l0 l1 : Option Value} {s0 : Nat} {σ : ab_St} {Q : Option Value → ab_St → Prop} : Ev d 147 53 [l0, l1] [.ref s0] σ Q = (ab_k s0 = 10 ∧ Ev d 147 56 [l0, l1] [.int (σ.1 s0 7)] σ Q) := ev_Hc (c := ab_k s0 = 10) d147_53 rfl rfl rfl rfl rfl rfl rfl rfl
theorem d147_56 : decode (ab_C 147) 56 = .ok (.invokestatic 187, 3) := by decide +kernel
theorem e147_56 {d : Nat} {l0 l1 : Option Value} {s0 : Int32} {σ : ab_St} {Q : Option Value → ab_St → Prop} : Ev (d + 1) 147 56 [l0, l1] [.int s0] σ Q = Ev d 129 0 [some (.int s0), none, none] [] σ (fun r σ2 => Ev (d + 1) 147 59 [l0, l1] (r.toList ++ []) σ2 Q) := ev_K0 (y := 129) (ls := [l0, l1]) (st := [.int s0]) (as := [.int s0]) (rest := []) d147_56 rfl rfl rfl rfl rfl rfl rfl rfl
theorem d147_59 : decode (ab_C 147) 59 = .ok (.ireturn, 1) := by decide +kernel
theorem e147_59 {d : Nat} {l0 l1 : Option Value} {s0 : Int32} {σ : ab_St} {Q : Option Value → ab_St → Prop} : Ev d 147 59 [l0, l1] [.int s0] σ Q = Q (some (.int s0)) σ := ev_E d147_59 rfl rfl rfl rfl rfl rfl rfl
/-! SaidLeastModel.again(I)I -/
theorem d148_0 : decode (ab_C 148) 0 = .ok (.aload_n 0, 1) := by decide +kernel
theorem e148_0 {d : Nat} {l1 : Option Value} {x : Nat} {σ : ab_St} {Q : Option Value → ab_St → Prop} : Ev d 148 0 [some (.ref x), l1] [] σ Q = Ev d 148 1 [some (.ref x), l1] [.ref x] σ Q := ev_A1 d148_0 rfl
theorem d148_1 : decode (ab_C 148) 1 = .ok (.iconst 0, 1) := by decide +kernel
theorem e148_1 {d : Nat} {l0 l1 : Option Value} {s0 : Nat} {σ : ab_St} {Q : Option Value → ab_St → Prop} : Ev d 148 1 [l0, l1] [.ref s0] σ Q = Ev d 148 2 [l0, l1] [.int 0, .ref s0] σ Q := ev_A1 d148_1 rfl
theorem d148_2 : decode (ab_C 148) 2 = .ok (.putfield 79, 3) := by decide +kernel
theorem e148_2 {d : Nat} {l0 l1 : Option Value} {s0 : Int32} {s1 : Nat} {σ : ab_St} {Q : Option Value → ab_St → Prop} : Ev d 148 2 [l0, l1] [.int s0, .ref s1] σ Q = (ab_k s1 = 10 ∧ Ev d 148 5 [l0, l1] [] (ab_wI σ s1 (upd (σ.1 s1) 0 s0)) Q) := ev_Hc (c := ab_k s1 = 10) d148_2 rfl rfl rfl rfl rfl rfl rfl rfl
theorem d148_5 : decode (ab_C 148) 5 = .ok (.iload_n 1, 1) := by decide +kernel
theorem e148_5 {d : Nat} {l0 : Option Value} {x : Int32} {σ : ab_St} {Q : Option Value → ab_St → Prop} : Ev d 148 5 [l0, some (.int x)] [] σ Q = Ev d 148 6 [l0, some (.int x)] [.int x] σ Q := ev_A1 d148_5 rfl
theorem d148_6 : decode (ab_C 148) 6 = .ok (.i2l, 1) := by decide +kernel
theorem e148_6 {d : Nat} {l0 l1 : Option Value} {s0 : Int32} {σ : ab_St} {Q : Option Value → ab_St → Prop} : Ev d 148 6 [l0, l1] [.int s0] σ Q = Ev d 148 7 [l0, l1] [.long s0.toInt64] σ Q := ev_A2 d148_6 rfl rfl
theorem d148_7 : decode (ab_C 148) 7 = .ok (.lconst 0, 1) := by decide +kernel
theorem e148_7 {d : Nat} {l0 l1 : Option Value} {s0 : Int64} {σ : ab_St} {Q : Option Value → ab_St → Prop} : Ev d 148 7 [l0, l1] [.long s0] σ Q = Ev d 148 8 [l0, l1] [.long 0, .long s0] σ Q := ev_A1 d148_7 rfl
theorem d148_8 : decode (ab_C 148) 8 = .ok (.lconst 1, 1) := by decide +kernel
theorem e148_8 {d : Nat} {l0 l1 : Option Value} {s0 : Int64} {s1 : Int64} {σ : ab_St} {Q : Option Value → ab_St → Prop} : Ev d 148 8 [l0, l1] [.long s0, .long s1] σ Q = Ev d 148 9 [l0, l1] [.long 1, .long s0, .long s1] σ Q := ev_A1 d148_8 rfl
theorem d148_9 : decode (ab_C 148) 9 = .ok (.invokestatic 85, 3) := by decide +kernel
theorem e148_9 {d : Nat} {l0 l1 : Option Value} {s0 : Int64} {s1 : Int64} {s2 : Int64} {σ : ab_St} {Q : Option Value → ab_St → Prop} : Ev (d + 1) 148 9 [l0, l1] [.long s0, .long s1, .long s2] σ Q = Ev d 101 0 [some (.long s2), none, some (.long s1), none, some (.long s0), none] [] σ (fun r σ2 => Ev (d + 1) 148 12 [l0, l1] (r.toList ++ []) σ2 Q) := ev_K0 (y := 101) (ls := [l0, l1]) (st := [.long s0, .long s1, .long s2]) (as := [.long s2, .long s1, .long s0]) (rest := []) d148_9 rfl rfl rfl rfl rfl rfl rfl rfl
theorem d148_12 : decode (ab_C 148) 12 = .ok (.ifCond .ne 5, 3) := by decide +kernel
theorem e148_12 {d : Nat} {l0 l1 : Option Value} {s0 : Int32} {σ : ab_St} {Q : Option Value → ab_St → Prop} : Ev d 148 12 [l0, l1] [.int s0] σ Q = if s0 = 0 then Ev d 148 15 [l0, l1] [] σ Q else Ev d 148 17 [l0, l1] [] σ Q := ev_B (c := s0 = 0) d148_12 rfl rfl rfl rfl rfl
theorem d148_15 : decode (ab_C 148) 15 = .ok (.iconst (-1), 1) := by decide +kernel
theorem e148_15 {d : Nat} {l0 l1 : Option Value} {σ : ab_St} {Q : Option Value → ab_St → Prop} : Ev d 148 15 [l0, l1] [] σ Q = Ev d 148 16 [l0, l1] [.int (-1)] σ Q := ev_A1 d148_15 rfl
theorem d148_16 : decode (ab_C 148) 16 = .ok (.ireturn, 1) := by decide +kernel
theorem e148_16 {d : Nat} {l0 l1 : Option Value} {s0 : Int32} {σ : ab_St} {Q : Option Value → ab_St → Prop} : Ev d 148 16 [l0, l1] [.int s0] σ Q = Q (some (.int s0)) σ := ev_E d148_16 rfl rfl rfl rfl rfl rfl rfl
theorem d148_17 : decode (ab_C 148) 17 = .ok (.aload_n 0, 1) := by decide +kernel
theorem e148_17 {d : Nat} {l1 : Option Value} {x : Nat} {σ : ab_St} {Q : Option Value → ab_St → Prop} : Ev d 148 17 [some (.ref x), l1] [] σ Q = Ev d 148 18 [some (.ref x), l1] [.ref x] σ Q := ev_A1 d148_17 rfl
theorem d148_18 : decode (ab_C 148) 18 = .ok (.getfield 53, 3) := by decide +kernel
theorem e148_18 {d : Nat} {l0 l1 : Option Value} {s0 : Nat} {σ : ab_St} {Q : Option Value → ab_St → Prop} : Ev d 148 18 [l0, l1] [.ref s0] σ Q = (ab_k s0 = 10 ∧ Ev d 148 21 [l0, l1] [.ref (ab_r s0 27)] σ Q) := ev_Hc (c := ab_k s0 = 10) d148_18 rfl rfl rfl rfl rfl rfl rfl rfl
theorem d148_21 : decode (ab_C 148) 21 = .ok (.iload_n 1, 1) := by decide +kernel
theorem e148_21 {d : Nat} {l0 : Option Value} {x : Int32} {s0 : Nat} {σ : ab_St} {Q : Option Value → ab_St → Prop} : Ev d 148 21 [l0, some (.int x)] [.ref s0] σ Q = Ev d 148 22 [l0, some (.int x)] [.int x, .ref s0] σ Q := ev_A1 d148_21 rfl
theorem d148_22 : decode (ab_C 148) 22 = .ok (.baload, 1) := by decide +kernel
theorem e148_22 {d : Nat} {l0 l1 : Option Value} {s0 : Int32} {s1 : Nat} {σ : ab_St} {Q : Option Value → ab_St → Prop} : Ev d 148 22 [l0, l1] [.int s0, .ref s1] σ Q = (((ab_k s1 = 101 ∨ ab_k s1 = 102) ∧ ab_in s0 (ab_n s1)) ∧ Ev d 148 23 [l0, l1] [.int (σ.1 s1 s0.toNatClampNeg)] σ Q) := ev_Hc (c := (ab_k s1 = 101 ∨ ab_k s1 = 102) ∧ ab_in s0 (ab_n s1)) d148_22 rfl rfl rfl rfl rfl rfl rfl rfl
theorem d148_23 : decode (ab_C 148) 23 = .ok (.ifCond .ne 6, 3) := by decide +kernel
theorem e148_23 {d : Nat} {l0 l1 : Option Value} {s0 : Int32} {σ : ab_St} {Q : Option Value → ab_St → Prop} : Ev d 148 23 [l0, l1] [.int s0] σ Q = if s0 = 0 then Ev d 148 26 [l0, l1] [] σ Q else Ev d 148 29 [l0, l1] [] σ Q := ev_B (c := s0 = 0) d148_23 rfl rfl rfl rfl rfl
theorem d148_26 : decode (ab_C 148) 26 = .ok (.bipush (-3), 2) := by decide +kernel
theorem e148_26 {d : Nat} {l0 l1 : Option Value} {σ : ab_St} {Q : Option Value → ab_St → Prop} : Ev d 148 26 [l0, l1] [] σ Q = Ev d 148 28 [l0, l1] [.int (-3)] σ Q := ev_A1 d148_26 rfl
theorem d148_28 : decode (ab_C 148) 28 = .ok (.ireturn, 1) := by decide +kernel
theorem e148_28 {d : Nat} {l0 l1 : Option Value} {s0 : Int32} {σ : ab_St} {Q : Option Value → ab_St → Prop} : Ev d 148 28 [l0, l1] [.int s0] σ Q = Q (some (.int s0)) σ := ev_E d148_28 rfl rfl rfl rfl rfl rfl rfl
theorem d148_29 : decode (ab_C 148) 29 = .ok (.aload_n 0, 1) := by decide +kernel
theorem e148_29 {d : Nat} {l1 : Option Value} {x : Nat} {σ : ab_St} {Q : Option Value → ab_St → Prop} : Ev d 148 29 [some (.ref x), l1] [] σ Q = Ev d 148 30 [some (.ref x), l1] [.ref x] σ Q := ev_A1 d148_29 rfl
theorem d148_30 : decode (ab_C 148) 30 = .ok (.aload_n 0, 1) := by decide +kernel
theorem e148_30 {d : Nat} {l1 : Option Value} {x : Nat} {s0 : Nat} {σ : ab_St} {Q : Option Value → ab_St → Prop} : Ev d 148 30 [some (.ref x), l1] [.ref s0] σ Q = Ev d 148 31 [some (.ref x), l1] [.ref x, .ref s0] σ Q := ev_A1 d148_30 rfl
theorem d148_31 : decode (ab_C 148) 31 = .ok (.getfield 50, 3) := by decide +kernel
theorem e148_31 {d : Nat} {l0 l1 : Option Value} {s0 : Nat} {s1 : Nat} {σ : ab_St} {Q : Option Value → ab_St → Prop} : Ev d 148 31 [l0, l1] [.ref s0, .ref s1] σ Q = (ab_k s0 = 10 ∧ Ev d 148 34 [l0, l1] [.ref (ab_r s0 26), .ref s1] σ Q) := ev_Hc (c := ab_k s0 = 10) d148_31 rfl rfl rfl rfl rfl rfl rfl rfl
theorem d148_34 : decode (ab_C 148) 34 = .ok (.bipush 16, 2) := by decide +kernel
theorem e148_34 {d : Nat} {l0 l1 : Option Value} {s0 : Nat} {s1 : Nat} {σ : ab_St} {Q : Option Value → ab_St → Prop} : Ev d 148 34 [l0, l1] [.ref s0, .ref s1] σ Q = Ev d 148 36 [l0, l1] [.int 16, .ref s0, .ref s1] σ Q := ev_A1 d148_34 rfl
theorem d148_36 : decode (ab_C 148) 36 = .ok (.iload_n 1, 1) := by decide +kernel
theorem e148_36 {d : Nat} {l0 : Option Value} {x : Int32} {s0 : Int32} {s1 : Nat} {s2 : Nat} {σ : ab_St} {Q : Option Value → ab_St → Prop} : Ev d 148 36 [l0, some (.int x)] [.int s0, .ref s1, .ref s2] σ Q = Ev d 148 37 [l0, some (.int x)] [.int x, .int s0, .ref s1, .ref s2] σ Q := ev_A1 d148_36 rfl
theorem d148_37 : decode (ab_C 148) 37 = .ok (.imul, 1) := by decide +kernel
theorem e148_37 {d : Nat} {l0 l1 : Option Value} {s0 : Int32} {s1 : Int32} {s2 : Nat} {s3 : Nat} {σ : ab_St} {Q : Option Value → ab_St → Prop} : Ev d 148 37 [l0, l1] [.int s0, .int s1, .ref s2, .ref s3] σ Q = Ev d 148 38 [l0, l1] [.int (s1 * s0), .ref s2, .ref s3] σ Q := ev_A2 d148_37 rfl rfl
theorem d148_38 : decode (ab_C 148) 38 = .ok (.invokevirtual 191, 3) := by decide +kernel
theorem e148_38 {d : Nat} {l0 l1 : Option Value} {s0 : Int32} {s1 : Nat} {s2 : Nat} {σ : ab_St} {Q : Option Value → ab_St → Prop} : Ev (d + 1) 148 38 [l0, l1] [.int s0, .ref s1, .ref s2] σ Q = (ab_k s2 = 10 ∧ Ev d 131 0 [some (.ref s2), some (.ref s1), some (.int s0), none] [] σ (fun r σ2 => Ev (d + 1) 148 41 [l0, l1] (r.toList ++ []) σ2 Q)) := ev_KV (b := s2) (ls := [l0, l1]) (st := [.int s0, .ref s1, .ref s2]) (as := [.ref s1, .int s0]) (rest := []) d148_38 rfl rfl rfl (Nat.le_of_ble_eq_true rfl) (Nat.le_of_ble_eq_true rfl) (Nat.le_of_ble_eq_true rfl) rfl rfl rfl rfl rfl rfl rfl
theorem d148_41 : decode (ab_C 148) 41 = .ok (.aload_n 0, 1) := by decide +kernel
theorem e148_41 {d : Nat} {l1 : Option Value} {x : Nat} {σ : ab_St} {Q : Option Value → ab_St → Prop} : Ev d 148 41 [some (.ref x), l1] [] σ Q = Ev d 148 42 [some (.ref x), l1] [.ref x] σ Q := ev_A1 d148_41 rfl
theorem d148_42 : decode (ab_C 148) 42 = .ok (.aload_n 0, 1) := by decide +kernel
theorem e148_42 {d : Nat} {l1 : Option Value} {x : Nat} {s0 : Nat} {σ : ab_St} {Q : Option Value → ab_St → Prop} : Ev d 148 42 [some (.ref x), l1] [.ref s0] σ Q = Ev d 148 43 [some (.ref x), l1] [.ref x, .ref s0] σ Q := ev_A1 d148_42 rfl
theorem d148_43 : decode (ab_C 148) 43 = .ok (.getfield 50, 3) := by decide +kernel
theorem e148_43 {d : Nat} {l0 l1 : Option Value} {s0 : Nat} {s1 : Nat} {σ : ab_St} {Q : Option Value → ab_St → Prop} : Ev d 148 43 [l0, l1] [.ref s0, .ref s1] σ Q = (ab_k s0 = 10 ∧ Ev d 148 46 [l0, l1] [.ref (ab_r s0 26), .ref s1] σ Q) := ev_Hc (c := ab_k s0 = 10) d148_43 rfl rfl rfl rfl rfl rfl rfl rfl
theorem d148_46 : decode (ab_C 148) 46 = .ok (.bipush 16, 2) := by decide +kernel
theorem e148_46 {d : Nat} {l0 l1 : Option Value} {s0 : Nat} {s1 : Nat} {σ : ab_St} {Q : Option Value → ab_St → Prop} : Ev d 148 46 [l0, l1] [.ref s0, .ref s1] σ Q = Ev d 148 48 [l0, l1] [.int 16, .ref s0, .ref s1] σ Q := ev_A1 d148_46 rfl
theorem d148_48 : decode (ab_C 148) 48 = .ok (.iload_n 1, 1) := by decide +kernel
theorem e148_48 {d : Nat} {l0 : Option Value} {x : Int32} {s0 : Int32} {s1 : Nat} {s2 : Nat} {σ : ab_St} {Q : Option Value → ab_St → Prop} : Ev d 148 48 [l0, some (.int x)] [.int s0, .ref s1, .ref s2] σ Q = Ev d 148 49 [l0, some (.int x)] [.int x, .int s0, .ref s1, .ref s2] σ Q := ev_A1 d148_48 rfl
theorem d148_49 : decode (ab_C 148) 49 = .ok (.imul, 1) := by decide +kernel
theorem e148_49 {d : Nat} {l0 l1 : Option Value} {s0 : Int32} {s1 : Int32} {s2 : Nat} {s3 : Nat} {σ : ab_St} {Q : Option Value → ab_St → Prop} : Ev d 148 49 [l0, l1] [.int s0, .int s1, .ref s2, .ref s3] σ Q = Ev d 148 50 [l0, l1] [.int (s1 * s0), .ref s2, .ref s3] σ Q := ev_A2 d148_49 rfl rfl
theorem d148_50 : decode (ab_C 148) 50 = .ok (.bipush 9, 2) := by decide +kernel
theorem e148_50 {d : Nat} {l0 l1 : Option Value} {s0 : Int32} {s1 : Nat} {s2 : Nat} {σ : ab_St} {Q : Option Value → ab_St → Prop} : Ev d 148 50 [l0, l1] [.int s0, .ref s1, .ref s2] σ Q = Ev d 148 52 [l0, l1] [.int 9, .int s0, .ref s1, .ref s2] σ Q := ev_A1 d148_50 rfl
theorem d148_52 : decode (ab_C 148) 52 = .ok (.iadd, 1) := by decide +kernel
theorem e148_52 {d : Nat} {l0 l1 : Option Value} {s0 : Int32} {s1 : Int32} {s2 : Nat} {s3 : Nat} {σ : ab_St} {Q : Option Value → ab_St → Prop} : Ev d 148 52 [l0, l1] [.int s0, .int s1, .ref s2, .ref s3] σ Q = Ev d 148 53 [l0, l1] [.int (s1 + s0), .ref s2, .ref s3] σ Q := ev_A2 d148_52 rfl rfl
theorem d148_53 : decode (ab_C 148) 53 = .ok (.iaload, 1) := by decide +kernel
theorem e148_53 {d : Nat} {l0 l1 : Option Value} {s0 : Int32} {s1 : Nat} {s2 : Nat} {σ : ab_St} {Q : Option Value → ab_St → Prop} : Ev d 148 53 [l0, l1] [.int s0, .ref s1, .ref s2] σ Q = ((ab_k s1 = 100 ∧ ab_in s0 (ab_n s1)) ∧ Ev d 148 54 [l0, l1] [.int (σ.1 s1 s0.toNatClampNeg), .ref s2] σ Q) := ev_Hc (c := ab_k s1 = 100 ∧ ab_in s0 (ab_n s1)) d148_53 rfl rfl rfl rfl rfl rfl rfl rfl
theorem d148_54 : decode (ab_C 148) 54 = .ok (.putfield 135, 3) := by decide +kernel
theorem e148_54 {d : Nat} {l0 l1 : Option Value} {s0 : Int32} {s1 : Nat} {σ : ab_St} {Q : Option Value → ab_St → Prop} : Ev d 148 54 [l0, l1] [.int s0, .ref s1] σ Q = (ab_k s1 = 10 ∧ Ev d 148 57 [l0, l1] [] (ab_wI σ s1 (upd (σ.1 s1) 4 s0)) Q) := ev_Hc (c := ab_k s1 = 10) d148_54 rfl rfl rfl rfl rfl rfl rfl rfl
theorem d148_57 : decode (ab_C 148) 57 = .ok (.aload_n 0, 1) := by decide +kernel
theorem e148_57 {d : Nat} {l1 : Option Value} {x : Nat} {σ : ab_St} {Q : Option Value → ab_St → Prop} : Ev d 148 57 [some (.ref x), l1] [] σ Q = Ev d 148 58 [some (.ref x), l1] [.ref x] σ Q := ev_A1 d148_57 rfl
theorem d148_58 : decode (ab_C 148) 58 = .ok (.iconst 0, 1) := by decide +kernel
theorem e148_58 {d : Nat} {l0 l1 : Option Value} {s0 : Nat} {σ : ab_St} {Q : Option Value → ab_St → Prop} : Ev d 148 58 [l0, l1] [.ref s0] σ Q = Ev d 148 59 [l0, l1] [.int 0, .ref s0] σ Q := ev_A1 d148_58 rfl
theorem d148_59 : decode (ab_C 148) 59 = .ok (.putfield 144, 3) := by decide +kernel
theorem e148_59 {d : Nat} {l0 l1 : Option Value} {s0 : Int32} {s1 : Nat} {σ : ab_St} {Q : Option Value → ab_St → Prop} : Ev d 148 59 [l0, l1] [.int s0, .ref s1] σ Q = (ab_k s1 = 10 ∧ Ev d 148 62 [l0, l1] [] (ab_wI σ s1 (upd (σ.1 s1) 25 s0)) Q) := ev_Hc (c := ab_k s1 = 10) d148_59 rfl rfl rfl rfl rfl rfl rfl rfl
theorem d148_62 : decode (ab_C 148) 62 = .ok (.aload_n 0, 1) := by decide +kernel
theorem e148_62 {d : Nat} {l1 : Option Value} {x : Nat} {σ : ab_St} {Q : Option Value → ab_St → Prop} : Ev d 148 62 [some (.ref x), l1] [] σ Q = Ev d 148 63 [some (.ref x), l1] [.ref x] σ Q := ev_A1 d148_62 rfl
theorem d148_63 : decode (ab_C 148) 63 = .ok (.getfield 138, 3) := by decide +kernel
theorem e148_63 {d : Nat} {l0 l1 : Option Value} {s0 : Nat} {σ : ab_St} {Q : Option Value → ab_St → Prop} : Ev d 148 63 [l0, l1] [.ref s0] σ Q = (ab_k s0 = 10 ∧ Ev d 148 66 [l0, l1] [.int (σ.1 s0 7)] σ Q) := ev_Hc (c := ab_k s0 = 10) d148_63 rfl rfl rfl rfl rfl rfl rfl rfl
theorem d148_66 : decode (ab_C 148) 66 = .ok (.invokestatic 187, 3) := by decide +kernel
theorem e148_66 {d : Nat} {l0 l1 : Option Value} {s0 : Int32} {σ : ab_St} {Q : Option Value → ab_St → Prop} : Ev (d + 1) 148 66 [l0, l1] [.int s0] σ Q = Ev d 129 0 [some (.int s0), none, none] [] σ (fun r σ2 => Ev (d + 1) 148 69 [l0, l1] (r.toList ++ []) σ2 Q) := ev_K0 (y := 129) (ls := [l0, l1]) (st := [.int s0]) (as := [.int s0]) (rest := []) d148_66 rfl rfl rfl rfl rfl rfl rfl rfl
theorem d148_69 : decode (ab_C 148) 69 = .ok (.ireturn, 1) := by decide +kernel
theorem e148_69 {d : Nat} {l0 l1 : Option Value} {s0 : Int32} {σ : ab_St} {Q : Option Value → ab_St → Prop} : Ev d 148 69 [l0, l1] [.int s0] σ Q = Q (some (.int s0)) σ := ev_E d148_69 rfl rfl rfl rfl rfl rfl rfl
