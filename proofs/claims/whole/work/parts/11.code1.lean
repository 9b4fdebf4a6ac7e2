/-! SaidLeast$Acts.clear()V -/
theorem d36_0 : decode (ab_C 36) 0 = .ok (.aload_n 0, 1) := by decide +kernel
theorem e36_0 {d : Nat} {x : Nat} {σ : ab_St} {Q : Option Value → ab_St → Prop} : Ev d 36 0 [some (.ref x)] [] σ Q = Ev d 36 1 [some (.ref x)] [.ref x] σ Q := ev_A1 d36_0 rfl
theorem d36_1 : decode (ab_C 36) 1 = .ok (.iconst 0, 1) := by decide +kernel
theorem e36_1 {d : Nat} {l0 : Option Value} {s0 : Nat} {σ : ab_St} {Q : Option Value → ab_St → Prop} : Ev d 36 1 [l0] [.ref s0] σ Q = Ev d 36 2 [l0] [.int 0, .ref s0] σ Q := ev_A1 d36_1 rfl
theorem d36_2 : decode (ab_C 36) 2 = .ok (.putfield 27, 3) := by decide +kernel
theorem e36_2 {d : Nat} {l0 : Option Value} {s0 : Int32} {s1 : Nat} {σ : ab_St} {Q : Option Value → ab_St → Prop} : Ev d 36 2 [l0] [.int s0, .ref s1] σ Q = (ab_k s1 = 5 ∧ Ev d 36 5 [l0] [] (ab_wI σ s1 (upd (σ.1 s1) 6 s0)) Q) := ev_Hc (c := ab_k s1 = 5) d36_2 rfl rfl rfl rfl rfl rfl rfl rfl
theorem d36_5 : decode (ab_C 36) 5 = .ok (.return_, 1) := by decide +kernel
theorem e36_5 {d : Nat} {l0 : Option Value} {σ : ab_St} {Q : Option Value → ab_St → Prop} : Ev d 36 5 [l0] [] σ Q = Q none σ := ev_E d36_5 rfl rfl rfl rfl rfl rfl rfl
/-! SaidLeast.about(I)I -/
theorem d37_0 : decode (ab_C 37) 0 = .ok (.iload_n 1, 1) := by decide +kernel
theorem e37_0 {d : Nat} {l0 : Option Value} {x : Int32} {σ : ab_St} {Q : Option Value → ab_St → Prop} : Ev d 37 0 [l0, some (.int x)] [] σ Q = Ev d 37 1 [l0, some (.int x)] [.int x] σ Q := ev_A1 d37_0 rfl
theorem d37_1 : decode (ab_C 37) 1 = .ok (.tableswitch 154 0 10 #[59, 67, 75, 83, 91, 99, 107, 122, 130, 138, 146], 59) := by decide +kernel
theorem e37_1 {d : Nat} {l0 l1 : Option Value} {s0 : Int32} {σ : ab_St} {Q : Option Value → ab_St → Prop} : Ev d 37 1 [l0, l1] [.int s0] σ Q = if s0 = 0 then Ev d 37 60 [l0, l1] [] σ Q else if s0 = 1 then Ev d 37 68 [l0, l1] [] σ Q else if s0 = 2 then Ev d 37 76 [l0, l1] [] σ Q else if s0 = 3 then Ev d 37 84 [l0, l1] [] σ Q else if s0 = 4 then Ev d 37 92 [l0, l1] [] σ Q else if s0 = 5 then Ev d 37 100 [l0, l1] [] σ Q else if s0 = 6 then Ev d 37 108 [l0, l1] [] σ Q else if s0 = 7 then Ev d 37 123 [l0, l1] [] σ Q else if s0 = 8 then Ev d 37 131 [l0, l1] [] σ Q else if s0 = 9 then Ev d 37 139 [l0, l1] [] σ Q else if s0 = 10 then Ev d 37 147 [l0, l1] [] σ Q else Ev d 37 155 [l0, l1] [] σ Q := ev_T (ts := [60, 68, 76, 84, 92, 100, 108, 123, 131, 139, 147]) (df := 155) d37_1 (by decide +kernel)
theorem d37_60 : decode (ab_C 37) 60 = .ok (.aload_n 0, 1) := by decide +kernel
theorem e37_60 {d : Nat} {l1 : Option Value} {x : Nat} {σ : ab_St} {Q : Option Value → ab_St → Prop} : Ev d 37 60 [some (.ref x), l1] [] σ Q = Ev d 37 61 [some (.ref x), l1] [.ref x] σ Q := ev_A1 d37_60 rfl
theorem d37_61 : decode (ab_C 37) 61 = .ok (.getfield 26, 3) := by decide +kernel
theorem e37_61 {d : Nat} {l0 l1 : Option Value} {s0 : Nat} {σ : ab_St} {Q : Option Value → ab_St → Prop} : Ev d 37 61 [l0, l1] [.ref s0] σ Q = (ab_k s0 = 0 ∧ Ev d 37 64 [l0, l1] [.ref (ab_r s0 2)] σ Q) := ev_Hc (c := ab_k s0 = 0) d37_61 rfl rfl rfl rfl rfl rfl rfl rfl
theorem d37_64 : decode (ab_C 37) 64 = .ok (.getfield 101, 3) := by decide +kernel
theorem e37_64 {d : Nat} {l0 l1 : Option Value} {s0 : Nat} {σ : ab_St} {Q : Option Value → ab_St → Prop} : Ev d 37 64 [l0, l1] [.ref s0] σ Q = (ab_k s0 = 3 ∧ Ev d 37 67 [l0, l1] [.int (σ.1 s0 4)] σ Q) := ev_Hc (c := ab_k s0 = 3) d37_64 rfl rfl rfl rfl rfl rfl rfl rfl
theorem d37_67 : decode (ab_C 37) 67 = .ok (.ireturn, 1) := by decide +kernel
theorem e37_67 {d : Nat} {l0 l1 : Option Value} {s0 : Int32} {σ : ab_St} {Q : Option Value → ab_St → Prop} : Ev d 37 67 [l0, l1] [.int s0] σ Q = Q (some (.int s0)) σ := ev_E d37_67 rfl rfl rfl rfl rfl rfl rfl
theorem d37_68 : decode (ab_C 37) 68 = .ok (.aload_n 0, 1) := by decide +kernel
theorem e37_68 {d : Nat} {l1 : Option Value} {x : Nat} {σ : ab_St} {Q : Option Value → ab_St → Prop} : Ev d 37 68 [some (.ref x), l1] [] σ Q = Ev d 37 69 [some (.ref x), l1] [.ref x] σ Q := ev_A1 d37_68 rfl
theorem d37_69 : decode (ab_C 37) 69 = .ok (.getfield 26, 3) := by decide +kernel
theorem e37_69 {d : Nat} {l0 l1 : Option Value} {s0 : Nat} {σ : ab_St} {Q : Option Value → ab_St → Prop} : Ev d 37 69 [l0, l1] [.ref s0] σ Q = (ab_k s0 = 0 ∧ Ev d 37 72 [l0, l1] [.ref (ab_r s0 2)] σ Q) := ev_Hc (c := ab_k s0 = 0) d37_69 rfl rfl rfl rfl rfl rfl rfl rfl
theorem d37_72 : decode (ab_C 37) 72 = .ok (.getfield 104, 3) := by decide +kernel
theorem e37_72 {d : Nat} {l0 l1 : Option Value} {s0 : Nat} {σ : ab_St} {Q : Option Value → ab_St → Prop} : Ev d 37 72 [l0, l1] [.ref s0] σ Q = (ab_k s0 = 3 ∧ Ev d 37 75 [l0, l1] [.int (σ.1 s0 5)] σ Q) := ev_Hc (c := ab_k s0 = 3) d37_72 rfl rfl rfl rfl rfl rfl rfl rfl
theorem d37_75 : decode (ab_C 37) 75 = .ok (.ireturn, 1) := by decide +kernel
theorem e37_75 {d : Nat} {l0 l1 : Option Value} {s0 : Int32} {σ : ab_St} {Q : Option Value → ab_St → Prop} : Ev d 37 75 [l0, l1] [.int s0] σ Q = Q (some (.int s0)) σ := ev_E d37_75 rfl rfl rfl rfl rfl rfl rfl
theorem d37_76 : decode (ab_C 37) 76 = .ok (.aload_n 0, 1) := by decide +kernel
theorem e37_76 {d : Nat} {l1 : Option Value} {x : Nat} {σ : ab_St} {Q : Option Value → ab_St → Prop} : Ev d 37 76 [some (.ref x), l1] [] σ Q = Ev d 37 77 [some (.ref x), l1] [.ref x] σ Q := ev_A1 d37_76 rfl
theorem d37_77 : decode (ab_C 37) 77 = .ok (.getfield 33, 3) := by decide +kernel
theorem e37_77 {d : Nat} {l0 l1 : Option Value} {s0 : Nat} {σ : ab_St} {Q : Option Value → ab_St → Prop} : Ev d 37 77 [l0, l1] [.ref s0] σ Q = (ab_k s0 = 0 ∧ Ev d 37 80 [l0, l1] [.ref (ab_r s0 3)] σ Q) := ev_Hc (c := ab_k s0 = 0) d37_77 rfl rfl rfl rfl rfl rfl rfl rfl
theorem d37_80 : decode (ab_C 37) 80 = .ok (.getfield 107, 3) := by decide +kernel
theorem e37_80 {d : Nat} {l0 l1 : Option Value} {s0 : Nat} {σ : ab_St} {Q : Option Value → ab_St → Prop} : Ev d 37 80 [l0, l1] [.ref s0] σ Q = (ab_k s0 = 4 ∧ Ev d 37 83 [l0, l1] [.int (σ.1 s0 4)] σ Q) := ev_Hc (c := ab_k s0 = 4) d37_80 rfl rfl rfl rfl rfl rfl rfl rfl
theorem d37_83 : decode (ab_C 37) 83 = .ok (.ireturn, 1) := by decide +kernel
theorem e37_83 {d : Nat} {l0 l1 : Option Value} {s0 : Int32} {σ : ab_St} {Q : Option Value → ab_St → Prop} : Ev d 37 83 [l0, l1] [.int s0] σ Q = Q (some (.int s0)) σ := ev_E d37_83 rfl rfl rfl rfl rfl rfl rfl
theorem d37_84 : decode (ab_C 37) 84 = .ok (.aload_n 0, 1) := by decide +kernel
theorem e37_84 {d : Nat} {l1 : Option Value} {x : Nat} {σ : ab_St} {Q : Option Value → ab_St → Prop} : Ev d 37 84 [some (.ref x), l1] [] σ Q = Ev d 37 85 [some (.ref x), l1] [.ref x] σ Q := ev_A1 d37_84 rfl
theorem d37_85 : decode (ab_C 37) 85 = .ok (.getfield 33, 3) := by decide +kernel
theorem e37_85 {d : Nat} {l0 l1 : Option Value} {s0 : Nat} {σ : ab_St} {Q : Option Value → ab_St → Prop} : Ev d 37 85 [l0, l1] [.ref s0] σ Q = (ab_k s0 = 0 ∧ Ev d 37 88 [l0, l1] [.ref (ab_r s0 3)] σ Q) := ev_Hc (c := ab_k s0 = 0) d37_85 rfl rfl rfl rfl rfl rfl rfl rfl
theorem d37_88 : decode (ab_C 37) 88 = .ok (.getfield 110, 3) := by decide +kernel
theorem e37_88 {d : Nat} {l0 l1 : Option Value} {s0 : Nat} {σ : ab_St} {Q : Option Value → ab_St → Prop} : Ev d 37 88 [l0, l1] [.ref s0] σ Q = (ab_k s0 = 4 ∧ Ev d 37 91 [l0, l1] [.int (σ.1 s0 1)] σ Q) := ev_Hc (c := ab_k s0 = 4) d37_88 rfl rfl rfl rfl rfl rfl rfl rfl
theorem d37_91 : decode (ab_C 37) 91 = .ok (.ireturn, 1) := by decide +kernel
theorem e37_91 {d : Nat} {l0 l1 : Option Value} {s0 : Int32} {σ : ab_St} {Q : Option Value → ab_St → Prop} : Ev d 37 91 [l0, l1] [.int s0] σ Q = Q (some (.int s0)) σ := ev_E d37_91 rfl rfl rfl rfl rfl rfl rfl
theorem d37_92 : decode (ab_C 37) 92 = .ok (.aload_n 0, 1) := by decide +kernel
theorem e37_92 {d : Nat} {l1 : Option Value} {x : Nat} {σ : ab_St} {Q : Option Value → ab_St → Prop} : Ev d 37 92 [some (.ref x), l1] [] σ Q = Ev d 37 93 [some (.ref x), l1] [.ref x] σ Q := ev_A1 d37_92 rfl
theorem d37_93 : decode (ab_C 37) 93 = .ok (.getfield 33, 3) := by decide +kernel
theorem e37_93 {d : Nat} {l0 l1 : Option Value} {s0 : Nat} {σ : ab_St} {Q : Option Value → ab_St → Prop} : Ev d 37 93 [l0, l1] [.ref s0] σ Q = (ab_k s0 = 0 ∧ Ev d 37 96 [l0, l1] [.ref (ab_r s0 3)] σ Q) := ev_Hc (c := ab_k s0 = 0) d37_93 rfl rfl rfl rfl rfl rfl rfl rfl
theorem d37_96 : decode (ab_C 37) 96 = .ok (.invokevirtual 113, 3) := by decide +kernel
theorem e37_96 {d : Nat} {l0 l1 : Option Value} {s0 : Nat} {σ : ab_St} {Q : Option Value → ab_St → Prop} : Ev (d + 1) 37 96 [l0, l1] [.ref s0] σ Q = (ab_k s0 = 4 ∧ Ev d 38 0 [some (.ref s0), none, none, none] [] σ (fun r σ2 => Ev (d + 1) 37 99 [l0, l1] (r.toList ++ []) σ2 Q)) := ev_KV (b := s0) (ls := [l0, l1]) (st := [.ref s0]) (as := []) (rest := []) d37_96 rfl rfl rfl (Nat.le_of_ble_eq_true rfl) (Nat.le_of_ble_eq_true rfl) (Nat.le_of_ble_eq_true rfl) rfl rfl rfl rfl rfl rfl rfl
theorem d37_99 : decode (ab_C 37) 99 = .ok (.ireturn, 1) := by decide +kernel
theorem e37_99 {d : Nat} {l0 l1 : Option Value} {s0 : Int32} {σ : ab_St} {Q : Option Value → ab_St → Prop} : Ev d 37 99 [l0, l1] [.int s0] σ Q = Q (some (.int s0)) σ := ev_E d37_99 rfl rfl rfl rfl rfl rfl rfl
theorem d37_100 : decode (ab_C 37) 100 = .ok (.aload_n 0, 1) := by decide +kernel
theorem e37_100 {d : Nat} {l1 : Option Value} {x : Nat} {σ : ab_St} {Q : Option Value → ab_St → Prop} : Ev d 37 100 [some (.ref x), l1] [] σ Q = Ev d 37 101 [some (.ref x), l1] [.ref x] σ Q := ev_A1 d37_100 rfl
theorem d37_101 : decode (ab_C 37) 101 = .ok (.getfield 33, 3) := by decide +kernel
theorem e37_101 {d : Nat} {l0 l1 : Option Value} {s0 : Nat} {σ : ab_St} {Q : Option Value → ab_St → Prop} : Ev d 37 101 [l0, l1] [.ref s0] σ Q = (ab_k s0 = 0 ∧ Ev d 37 104 [l0, l1] [.ref (ab_r s0 3)] σ Q) := ev_Hc (c := ab_k s0 = 0) d37_101 rfl rfl rfl rfl rfl rfl rfl rfl
theorem d37_104 : decode (ab_C 37) 104 = .ok (.getfield 117, 3) := by decide +kernel
theorem e37_104 {d : Nat} {l0 l1 : Option Value} {s0 : Nat} {σ : ab_St} {Q : Option Value → ab_St → Prop} : Ev d 37 104 [l0, l1] [.ref s0] σ Q = (ab_k s0 = 4 ∧ Ev d 37 107 [l0, l1] [.int (σ.1 s0 2)] σ Q) := ev_Hc (c := ab_k s0 = 4) d37_104 rfl rfl rfl rfl rfl rfl rfl rfl
theorem d37_107 : decode (ab_C 37) 107 = .ok (.ireturn, 1) := by decide +kernel
theorem e37_107 {d : Nat} {l0 l1 : Option Value} {s0 : Int32} {σ : ab_St} {Q : Option Value → ab_St → Prop} : Ev d 37 107 [l0, l1] [.int s0] σ Q = Q (some (.int s0)) σ := ev_E d37_107 rfl rfl rfl rfl rfl rfl rfl
theorem d37_108 : decode (ab_C 37) 108 = .ok (.aload_n 0, 1) := by decide +kernel
theorem e37_108 {d : Nat} {l1 : Option Value} {x : Nat} {σ : ab_St} {Q : Option Value → ab_St → Prop} : Ev d 37 108 [some (.ref x), l1] [] σ Q = Ev d 37 109 [some (.ref x), l1] [.ref x] σ Q := ev_A1 d37_108 rfl
theorem d37_109 : decode (ab_C 37) 109 = .ok (.getfield 26, 3) := by decide +kernel
theorem e37_109 {d : Nat} {l0 l1 : Option Value} {s0 : Nat} {σ : ab_St} {Q : Option Value → ab_St → Prop} : Ev d 37 109 [l0, l1] [.ref s0] σ Q = (ab_k s0 = 0 ∧ Ev d 37 112 [l0, l1] [.ref (ab_r s0 2)] σ Q) := ev_Hc (c := ab_k s0 = 0) d37_109 rfl rfl rfl rfl rfl rfl rfl rfl
theorem d37_112 : decode (ab_C 37) 112 = .ok (.aload_n 0, 1) := by decide +kernel
theorem e37_112 {d : Nat} {l1 : Option Value} {x : Nat} {s0 : Nat} {σ : ab_St} {Q : Option Value → ab_St → Prop} : Ev d 37 112 [some (.ref x), l1] [.ref s0] σ Q = Ev d 37 113 [some (.ref x), l1] [.ref x, .ref s0] σ Q := ev_A1 d37_112 rfl
theorem d37_113 : decode (ab_C 37) 113 = .ok (.getfield 33, 3) := by decide +kernel
theorem e37_113 {d : Nat} {l0 l1 : Option Value} {s0 : Nat} {s1 : Nat} {σ : ab_St} {Q : Option Value → ab_St → Prop} : Ev d 37 113 [l0, l1] [.ref s0, .ref s1] σ Q = (ab_k s0 = 0 ∧ Ev d 37 116 [l0, l1] [.ref (ab_r s0 3), .ref s1] σ Q) := ev_Hc (c := ab_k s0 = 0) d37_113 rfl rfl rfl rfl rfl rfl rfl rfl
theorem d37_116 : decode (ab_C 37) 116 = .ok (.getfield 117, 3) := by decide +kernel
theorem e37_116 {d : Nat} {l0 l1 : Option Value} {s0 : Nat} {s1 : Nat} {σ : ab_St} {Q : Option Value → ab_St → Prop} : Ev d 37 116 [l0, l1] [.ref s0, .ref s1] σ Q = (ab_k s0 = 4 ∧ Ev d 37 119 [l0, l1] [.int (σ.1 s0 2), .ref s1] σ Q) := ev_Hc (c := ab_k s0 = 4) d37_116 rfl rfl rfl rfl rfl rfl rfl rfl
theorem d37_119 : decode (ab_C 37) 119 = .ok (.invokevirtual 120, 3) := by decide +kernel
theorem e37_119 {d : Nat} {l0 l1 : Option Value} {s0 : Int32} {s1 : Nat} {σ : ab_St} {Q : Option Value → ab_St → Prop} : Ev (d + 1) 37 119 [l0, l1] [.int s0, .ref s1] σ Q = (ab_k s1 = 3 ∧ Ev d 39 0 [some (.ref s1), some (.int s0), none, none] [] σ (fun r σ2 => Ev (d + 1) 37 122 [l0, l1] (r.toList ++ []) σ2 Q)) := ev_KV (b := s1) (ls := [l0, l1]) (st := [.int s0, .ref s1]) (as := [.int s0]) (rest := []) d37_119 rfl rfl rfl (Nat.le_of_ble_eq_true rfl) (Nat.le_of_ble_eq_true rfl) (Nat.le_of_ble_eq_true rfl) rfl rfl rfl rfl rfl rfl rfl
theorem d37_122 : decode (ab_C 37) 122 = .ok (.ireturn, 1) := by decide +kernel
theorem e37_122 {d : Nat} {l0 l1 : Option Value} {s0 : Int32} {σ : ab_St} {Q : Option Value → ab_St → Prop} : Ev d 37 122 [l0, l1] [.int s0] σ Q = Q (some (.int s0)) σ := ev_E d37_122 rfl rfl rfl rfl rfl rfl rfl
theorem d37_123 : decode (ab_C 37) 123 = .ok (.aload_n 0, 1) := by decide +kernel
theorem e37_123 {d : Nat} {l1 : Option Value} {x : Nat} {σ : ab_St} {Q : Option Value → ab_St → Prop} : Ev d 37 123 [some (.ref x), l1] [] σ Q = Ev d 37 124 [some (.ref x), l1] [.ref x] σ Q := ev_A1 d37_123 rfl
theorem d37_124 : decode (ab_C 37) 124 = .ok (.getfield 43, 3) := by decide +kernel
theorem e37_124 {d : Nat} {l0 l1 : Option Value} {s0 : Nat} {σ : ab_St} {Q : Option Value → ab_St → Prop} : Ev d 37 124 [l0, l1] [.ref s0] σ Q = (ab_k s0 = 0 ∧ Ev d 37 127 [l0, l1] [.ref (ab_r s0 5)] σ Q) := ev_Hc (c := ab_k s0 = 0) d37_124 rfl rfl rfl rfl rfl rfl rfl rfl
theorem d37_127 : decode (ab_C 37) 127 = .ok (.getfield 124, 3) := by decide +kernel
theorem e37_127 {d : Nat} {l0 l1 : Option Value} {s0 : Nat} {σ : ab_St} {Q : Option Value → ab_St → Prop} : Ev d 37 127 [l0, l1] [.ref s0] σ Q = (ab_k s0 = 5 ∧ Ev d 37 130 [l0, l1] [.int (σ.1 s0 6)] σ Q) := ev_Hc (c := ab_k s0 = 5) d37_127 rfl rfl rfl rfl rfl rfl rfl rfl
theorem d37_130 : decode (ab_C 37) 130 = .ok (.ireturn, 1) := by decide +kernel
theorem e37_130 {d : Nat} {l0 l1 : Option Value} {s0 : Int32} {σ : ab_St} {Q : Option Value → ab_St → Prop} : Ev d 37 130 [l0, l1] [.int s0] σ Q = Q (some (.int s0)) σ := ev_E d37_130 rfl rfl rfl rfl rfl rfl rfl
theorem d37_131 : decode (ab_C 37) 131 = .ok (.aload_n 0, 1) := by decide +kernel
theorem e37_131 {d : Nat} {l1 : Option Value} {x : Nat} {σ : ab_St} {Q : Option Value → ab_St → Prop} : Ev d 37 131 [some (.ref x), l1] [] σ Q = Ev d 37 132 [some (.ref x), l1] [.ref x] σ Q := ev_A1 d37_131 rfl
theorem d37_132 : decode (ab_C 37) 132 = .ok (.getfield 33, 3) := by decide +kernel
theorem e37_132 {d : Nat} {l0 l1 : Option Value} {s0 : Nat} {σ : ab_St} {Q : Option Value → ab_St → Prop} : Ev d 37 132 [l0, l1] [.ref s0] σ Q = (ab_k s0 = 0 ∧ Ev d 37 135 [l0, l1] [.ref (ab_r s0 3)] σ Q) := ev_Hc (c := ab_k s0 = 0) d37_132 rfl rfl rfl rfl rfl rfl rfl rfl
theorem d37_135 : decode (ab_C 37) 135 = .ok (.invokevirtual 127, 3) := by decide +kernel
theorem e37_135 {d : Nat} {l0 l1 : Option Value} {s0 : Nat} {σ : ab_St} {Q : Option Value → ab_St → Prop} : Ev (d + 1) 37 135 [l0, l1] [.ref s0] σ Q = (ab_k s0 = 4 ∧ Ev d 40 0 [some (.ref s0), none, none] [] σ (fun r σ2 => Ev (d + 1) 37 138 [l0, l1] (r.toList ++ []) σ2 Q)) := ev_KV (b := s0) (ls := [l0, l1]) (st := [.ref s0]) (as := []) (rest := []) d37_135 rfl rfl rfl (Nat.le_of_ble_eq_true rfl) (Nat.le_of_ble_eq_true rfl) (Nat.le_of_ble_eq_true rfl) rfl rfl rfl rfl rfl rfl rfl
theorem d37_138 : decode (ab_C 37) 138 = .ok (.ireturn, 1) := by decide +kernel
theorem e37_138 {d : Nat} {l0 l1 : Option Value} {s0 : Int32} {σ : ab_St} {Q : Option Value → ab_St → Prop} : Ev d 37 138 [l0, l1] [.int s0] σ Q = Q (some (.int s0)) σ := ev_E d37_138 rfl rfl rfl rfl rfl rfl rfl
theorem d37_139 : decode (ab_C 37) 139 = .ok (.aload_n 0, 1) := by decide +kernel
theorem e37_139 {d : Nat} {l1 : Option Value} {x : Nat} {σ : ab_St} {Q : Option Value → ab_St → Prop} : Ev d 37 139 [some (.ref x), l1] [] σ Q = Ev d 37 140 [some (.ref x), l1] [.ref x] σ Q := ev_A1 d37_139 rfl
theorem d37_140 : decode (ab_C 37) 140 = .ok (.getfield 33, 3) := by decide +kernel
theorem e37_140 {d : Nat} {l0 l1 : Option Value} {s0 : Nat} {σ : ab_St} {Q : Option Value → ab_St → Prop} : Ev d 37 140 [l0, l1] [.ref s0] σ Q = (ab_k s0 = 0 ∧ Ev d 37 143 [l0, l1] [.ref (ab_r s0 3)] σ Q) := ev_Hc (c := ab_k s0 = 0) d37_140 rfl rfl rfl rfl rfl rfl rfl rfl
theorem d37_143 : decode (ab_C 37) 143 = .ok (.getfield 130, 3) := by decide +kernel
theorem e37_143 {d : Nat} {l0 l1 : Option Value} {s0 : Nat} {σ : ab_St} {Q : Option Value → ab_St → Prop} : Ev d 37 143 [l0, l1] [.ref s0] σ Q = (ab_k s0 = 4 ∧ Ev d 37 146 [l0, l1] [.int (σ.1 s0 3)] σ Q) := ev_Hc (c := ab_k s0 = 4) d37_143 rfl rfl rfl rfl rfl rfl rfl rfl
theorem d37_146 : decode (ab_C 37) 146 = .ok (.ireturn, 1) := by decide +kernel
theorem e37_146 {d : Nat} {l0 l1 : Option Value} {s0 : Int32} {σ : ab_St} {Q : Option Value → ab_St → Prop} : Ev d 37 146 [l0, l1] [.int s0] σ Q = Q (some (.int s0)) σ := ev_E d37_146 rfl rfl rfl rfl rfl rfl rfl
theorem d37_147 : decode (ab_C 37) 147 = .ok (.aload_n 0, 1) := by decide +kernel
theorem e37_147 {d : Nat} {l1 : Option Value} {x : Nat} {σ : ab_St} {Q : Option Value → ab_St → Prop} : Ev d 37 147 [some (.ref x), l1] [] σ Q = Ev d 37 148 [some (.ref x), l1] [.ref x] σ Q := ev_A1 d37_147 rfl
theorem d37_148 : decode (ab_C 37) 148 = .ok (.getfield 12, 3) := by decide +kernel
theorem e37_148 {d : Nat} {l0 l1 : Option Value} {s0 : Nat} {σ : ab_St} {Q : Option Value → ab_St → Prop} : Ev d 37 148 [l0, l1] [.ref s0] σ Q = (ab_k s0 = 0 ∧ Ev d 37 151 [l0, l1] [.ref (ab_r s0 0)] σ Q) := ev_Hc (c := ab_k s0 = 0) d37_148 rfl rfl rfl rfl rfl rfl rfl rfl
theorem d37_151 : decode (ab_C 37) 151 = .ok (.getfield 72, 3) := by decide +kernel
theorem e37_151 {d : Nat} {l0 l1 : Option Value} {s0 : Nat} {σ : ab_St} {Q : Option Value → ab_St → Prop} : Ev d 37 151 [l0, l1] [.ref s0] σ Q = (ab_k s0 = 1 ∧ Ev d 37 154 [l0, l1] [.int (σ.1 s0 1)] σ Q) := ev_Hc (c := ab_k s0 = 1) d37_151 rfl rfl rfl rfl rfl rfl rfl rfl
theorem d37_154 : decode (ab_C 37) 154 = .ok (.ireturn, 1) := by decide +kernel
theorem e37_154 {d : Nat} {l0 l1 : Option Value} {s0 : Int32} {σ : ab_St} {Q : Option Value → ab_St → Prop} : Ev d 37 154 [l0, l1] [.int s0] σ Q = Q (some (.int s0)) σ := ev_E d37_154 rfl rfl rfl rfl rfl rfl rfl
theorem d37_155 : decode (ab_C 37) 155 = .ok (.bipush (-2), 2) := by decide +kernel
theorem e37_155 {d : Nat} {l0 l1 : Option Value} {σ : ab_St} {Q : Option Value → ab_St → Prop} : Ev d 37 155 [l0, l1] [] σ Q = Ev d 37 157 [l0, l1] [.int (-2)] σ Q := ev_A1 d37_155 rfl
theorem d37_157 : decode (ab_C 37) 157 = .ok (.ireturn, 1) := by decide +kernel
theorem e37_157 {d : Nat} {l0 l1 : Option Value} {s0 : Int32} {σ : ab_St} {Q : Option Value → ab_St → Prop} : Ev d 37 157 [l0, l1] [.int s0] σ Q = Q (some (.int s0)) σ := ev_E d37_157 rfl rfl rfl rfl rfl rfl rfl
/-! SaidLeast$State.least()I -/
theorem d38_0 : decode (ab_C 38) 0 = .ok (.iconst 0, 1) := by decide +kernel
theorem e38_0 {d : Nat} {l0 l1 l2 l3 : Option Value} {σ : ab_St} {Q : Option Value → ab_St → Prop} : Ev d 38 0 [l0, l1, l2, l3] [] σ Q = Ev d 38 1 [l0, l1, l2, l3] [.int 0] σ Q := ev_A1 d38_0 rfl
theorem d38_1 : decode (ab_C 38) 1 = .ok (.istore_n 1, 1) := by decide +kernel
theorem e38_1 {d : Nat} {l0 l1 l2 l3 : Option Value} {s0 : Int32} {σ : ab_St} {Q : Option Value → ab_St → Prop} : Ev d 38 1 [l0, l1, l2, l3] [.int s0] σ Q = Ev d 38 2 [l0, some (.int s0), l2, l3] [] σ Q := ev_S d38_1 rfl rfl rfl rfl
theorem d38_2 : decode (ab_C 38) 2 = .ok (.iconst 0, 1) := by decide +kernel
theorem e38_2 {d : Nat} {l0 l1 l2 l3 : Option Value} {σ : ab_St} {Q : Option Value → ab_St → Prop} : Ev d 38 2 [l0, l1, l2, l3] [] σ Q = Ev d 38 3 [l0, l1, l2, l3] [.int 0] σ Q := ev_A1 d38_2 rfl
theorem d38_3 : decode (ab_C 38) 3 = .ok (.istore_n 2, 1) := by decide +kernel
theorem e38_3 {d : Nat} {l0 l1 l2 l3 : Option Value} {s0 : Int32} {σ : ab_St} {Q : Option Value → ab_St → Prop} : Ev d 38 3 [l0, l1, l2, l3] [.int s0] σ Q = Ev d 38 4 [l0, l1, some (.int s0), l3] [] σ Q := ev_S d38_3 rfl rfl rfl rfl
theorem d38_4 : decode (ab_C 38) 4 = .ok (.iconst 0, 1) := by decide +kernel
theorem e38_4 {d : Nat} {l0 l1 l2 l3 : Option Value} {σ : ab_St} {Q : Option Value → ab_St → Prop} : Ev d 38 4 [l0, l1, l2, l3] [] σ Q = Ev d 38 5 [l0, l1, l2, l3] [.int 0] σ Q := ev_A1 d38_4 rfl
theorem d38_5 : decode (ab_C 38) 5 = .ok (.istore_n 3, 1) := by decide +kernel
theorem e38_5 {d : Nat} {l0 l1 l2 l3 : Option Value} {s0 : Int32} {σ : ab_St} {Q : Option Value → ab_St → Prop} : Ev d 38 5 [l0, l1, l2, l3] [.int s0] σ Q = Ev d 38 6 [l0, l1, l2, some (.int s0)] [] σ Q := ev_S d38_5 rfl rfl rfl rfl
theorem d38_6 : decode (ab_C 38) 6 = .ok (.iload_n 3, 1) := by decide +kernel
theorem e38_6 {d : Nat} {l0 l1 l2 : Option Value} {x : Int32} {σ : ab_St} {Q : Option Value → ab_St → Prop} : Ev d 38 6 [l0, l1, l2, some (.int x)] [] σ Q = Ev d 38 7 [l0, l1, l2, some (.int x)] [.int x] σ Q := ev_A1 d38_6 rfl
theorem d38_7 : decode (ab_C 38) 7 = .ok (.bipush 6, 2) := by decide +kernel
theorem e38_7 {d : Nat} {l0 l1 l2 l3 : Option Value} {s0 : Int32} {σ : ab_St} {Q : Option Value → ab_St → Prop} : Ev d 38 7 [l0, l1, l2, l3] [.int s0] σ Q = Ev d 38 9 [l0, l1, l2, l3] [.int 6, .int s0] σ Q := ev_A1 d38_7 rfl
theorem d38_9 : decode (ab_C 38) 9 = .ok (.if_icmp .ge 62, 3) := by decide +kernel
theorem e38_9 {d : Nat} {l0 l1 l2 l3 : Option Value} {s0 : Int32} {s1 : Int32} {σ : ab_St} {Q : Option Value → ab_St → Prop} : Ev d 38 9 [l0, l1, l2, l3] [.int s0, .int s1] σ Q = if s0 ≤ s1 then Ev d 38 71 [l0, l1, l2, l3] [] σ Q else Ev d 38 12 [l0, l1, l2, l3] [] σ Q := ev_B (c := s0 ≤ s1) d38_9 rfl rfl rfl rfl rfl
theorem d38_12 : decode (ab_C 38) 12 = .ok (.aload_n 0, 1) := by decide +kernel
theorem e38_12 {d : Nat} {l1 l2 l3 : Option Value} {x : Nat} {σ : ab_St} {Q : Option Value → ab_St → Prop} : Ev d 38 12 [some (.ref x), l1, l2, l3] [] σ Q = Ev d 38 13 [some (.ref x), l1, l2, l3] [.ref x] σ Q := ev_A1 d38_12 rfl
theorem d38_13 : decode (ab_C 38) 13 = .ok (.getfield 25, 3) := by decide +kernel
theorem e38_13 {d : Nat} {l0 l1 l2 l3 : Option Value} {s0 : Nat} {σ : ab_St} {Q : Option Value → ab_St → Prop} : Ev d 38 13 [l0, l1, l2, l3] [.ref s0] σ Q = (ab_k s0 = 4 ∧ Ev d 38 16 [l0, l1, l2, l3] [.int (σ.1 s0 1)] σ Q) := ev_Hc (c := ab_k s0 = 4) d38_13 rfl rfl rfl rfl rfl rfl rfl rfl
theorem d38_16 : decode (ab_C 38) 16 = .ok (.iload_n 3, 1) := by decide +kernel
theorem e38_16 {d : Nat} {l0 l1 l2 : Option Value} {x : Int32} {s0 : Int32} {σ : ab_St} {Q : Option Value → ab_St → Prop} : Ev d 38 16 [l0, l1, l2, some (.int x)] [.int s0] σ Q = Ev d 38 17 [l0, l1, l2, some (.int x)] [.int x, .int s0] σ Q := ev_A1 d38_16 rfl
theorem d38_17 : decode (ab_C 38) 17 = .ok (.invokestatic 40, 3) := by decide +kernel
theorem e38_17 {d : Nat} {l0 l1 l2 l3 : Option Value} {s0 : Int32} {s1 : Int32} {σ : ab_St} {Q : Option Value → ab_St → Prop} : Ev (d + 1) 38 17 [l0, l1, l2, l3] [.int s0, .int s1] σ Q = Ev d 32 0 [some (.int s1), some (.int s0)] [] σ (fun r σ2 => Ev (d + 1) 38 20 [l0, l1, l2, l3] (r.toList ++ []) σ2 Q) := ev_K0 (y := 32) (ls := [l0, l1, l2, l3]) (st := [.int s0, .int s1]) (as := [.int s1, .int s0]) (rest := []) d38_17 rfl rfl rfl rfl rfl rfl rfl rfl
theorem d38_20 : decode (ab_C 38) 20 = .ok (.ifCond .eq 45, 3) := by decide +kernel
theorem e38_20 {d : Nat} {l0 l1 l2 l3 : Option Value} {s0 : Int32} {σ : ab_St} {Q : Option Value → ab_St → Prop} : Ev d 38 20 [l0, l1, l2, l3] [.int s0] σ Q = if s0 = 0 then Ev d 38 65 [l0, l1, l2, l3] [] σ Q else Ev d 38 23 [l0, l1, l2, l3] [] σ Q := ev_B (c := s0 = 0) d38_20 rfl rfl rfl rfl rfl
theorem d38_23 : decode (ab_C 38) 23 = .ok (.iload_n 2, 1) := by decide +kernel
theorem e38_23 {d : Nat} {l0 l1 l3 : Option Value} {x : Int32} {σ : ab_St} {Q : Option Value → ab_St → Prop} : Ev d 38 23 [l0, l1, some (.int x), l3] [] σ Q = Ev d 38 24 [l0, l1, some (.int x), l3] [.int x] σ Q := ev_A1 d38_23 rfl
theorem d38_24 : decode (ab_C 38) 24 = .ok (.ifCond .eq 16, 3) := by decide +kernel
theorem e38_24 {d : Nat} {l0 l1 l2 l3 : Option Value} {s0 : Int32} {σ : ab_St} {Q : Option Value → ab_St → Prop} : Ev d 38 24 [l0, l1, l2, l3] [.int s0] σ Q = if s0 = 0 then Ev d 38 40 [l0, l1, l2, l3] [] σ Q else Ev d 38 27 [l0, l1, l2, l3] [] σ Q := ev_B (c := s0 = 0) d38_24 rfl rfl rfl rfl rfl
theorem d38_27 : decode (ab_C 38) 27 = .ok (.aload_n 0, 1) := by decide +kernel
theorem e38_27 {d : Nat} {l1 l2 l3 : Option Value} {x : Nat} {σ : ab_St} {Q : Option Value → ab_St → Prop} : Ev d 38 27 [some (.ref x), l1, l2, l3] [] σ Q = Ev d 38 28 [some (.ref x), l1, l2, l3] [.ref x] σ Q := ev_A1 d38_27 rfl
theorem d38_28 : decode (ab_C 38) 28 = .ok (.getfield 9, 3) := by decide +kernel
theorem e38_28 {d : Nat} {l0 l1 l2 l3 : Option Value} {s0 : Nat} {σ : ab_St} {Q : Option Value → ab_St → Prop} : Ev d 38 28 [l0, l1, l2, l3] [.ref s0] σ Q = (ab_k s0 = 4 ∧ Ev d 38 31 [l0, l1, l2, l3] [.ref (ab_r s0 0)] σ Q) := ev_Hc (c := ab_k s0 = 4) d38_28 rfl rfl rfl rfl rfl rfl rfl rfl
theorem d38_31 : decode (ab_C 38) 31 = .ok (.iload_n 3, 1) := by decide +kernel
theorem e38_31 {d : Nat} {l0 l1 l2 : Option Value} {x : Int32} {s0 : Nat} {σ : ab_St} {Q : Option Value → ab_St → Prop} : Ev d 38 31 [l0, l1, l2, some (.int x)] [.ref s0] σ Q = Ev d 38 32 [l0, l1, l2, some (.int x)] [.int x, .ref s0] σ Q := ev_A1 d38_31 rfl
theorem d38_32 : decode (ab_C 38) 32 = .ok (.iaload, 1) := by decide +kernel
theorem e38_32 {d : Nat} {l0 l1 l2 l3 : Option Value} {s0 : Int32} {s1 : Nat} {σ : ab_St} {Q : Option Value → ab_St → Prop} : Ev d 38 32 [l0, l1, l2, l3] [.int s0, .ref s1] σ Q = ((ab_k s1 = 100 ∧ ab_in s0 (ab_n s1)) ∧ Ev d 38 33 [l0, l1, l2, l3] [.int (σ.1 s1 s0.toNatClampNeg)] σ Q) := ev_Hc (c := ab_k s1 = 100 ∧ ab_in s0 (ab_n s1)) d38_32 rfl rfl rfl rfl rfl rfl rfl rfl
theorem d38_33 : decode (ab_C 38) 33 = .ok (.iload_n 1, 1) := by decide +kernel
theorem e38_33 {d : Nat} {l0 l2 l3 : Option Value} {x : Int32} {s0 : Int32} {σ : ab_St} {Q : Option Value → ab_St → Prop} : Ev d 38 33 [l0, some (.int x), l2, l3] [.int s0] σ Q = Ev d 38 34 [l0, some (.int x), l2, l3] [.int x, .int s0] σ Q := ev_A1 d38_33 rfl
theorem d38_34 : decode (ab_C 38) 34 = .ok (.if_icmp .le 6, 3) := by decide +kernel
theorem e38_34 {d : Nat} {l0 l1 l2 l3 : Option Value} {s0 : Int32} {s1 : Int32} {σ : ab_St} {Q : Option Value → ab_St → Prop} : Ev d 38 34 [l0, l1, l2, l3] [.int s0, .int s1] σ Q = if s1 ≤ s0 then Ev d 38 40 [l0, l1, l2, l3] [] σ Q else Ev d 38 37 [l0, l1, l2, l3] [] σ Q := ev_B (c := s1 ≤ s0) d38_34 rfl rfl rfl rfl rfl
theorem d38_37 : decode (ab_C 38) 37 = .ok (.goto 28, 3) := by decide +kernel
theorem e38_37 {d : Nat} {l0 l1 l2 l3 : Option Value} {σ : ab_St} {Q : Option Value → ab_St → Prop} : Ev d 38 37 [l0, l1, l2, l3] [] σ Q = Ev d 38 65 [l0, l1, l2, l3] [] σ Q := ev_J d38_37 rfl rfl rfl rfl rfl
theorem d38_40 : decode (ab_C 38) 40 = .ok (.aload_n 0, 1) := by decide +kernel
theorem e38_40 {d : Nat} {l1 l2 l3 : Option Value} {x : Nat} {σ : ab_St} {Q : Option Value → ab_St → Prop} : Ev d 38 40 [some (.ref x), l1, l2, l3] [] σ Q = Ev d 38 41 [some (.ref x), l1, l2, l3] [.ref x] σ Q := ev_A1 d38_40 rfl
theorem d38_41 : decode (ab_C 38) 41 = .ok (.getfield 9, 3) := by decide +kernel
theorem e38_41 {d : Nat} {l0 l1 l2 l3 : Option Value} {s0 : Nat} {σ : ab_St} {Q : Option Value → ab_St → Prop} : Ev d 38 41 [l0, l1, l2, l3] [.ref s0] σ Q = (ab_k s0 = 4 ∧ Ev d 38 44 [l0, l1, l2, l3] [.ref (ab_r s0 0)] σ Q) := ev_Hc (c := ab_k s0 = 4) d38_41 rfl rfl rfl rfl rfl rfl rfl rfl
theorem d38_44 : decode (ab_C 38) 44 = .ok (.iload_n 3, 1) := by decide +kernel
theorem e38_44 {d : Nat} {l0 l1 l2 : Option Value} {x : Int32} {s0 : Nat} {σ : ab_St} {Q : Option Value → ab_St → Prop} : Ev d 38 44 [l0, l1, l2, some (.int x)] [.ref s0] σ Q = Ev d 38 45 [l0, l1, l2, some (.int x)] [.int x, .ref s0] σ Q := ev_A1 d38_44 rfl
theorem d38_45 : decode (ab_C 38) 45 = .ok (.iaload, 1) := by decide +kernel
theorem e38_45 {d : Nat} {l0 l1 l2 l3 : Option Value} {s0 : Int32} {s1 : Nat} {σ : ab_St} {Q : Option Value → ab_St → Prop} : Ev d 38 45 [l0, l1, l2, l3] [.int s0, .ref s1] σ Q = ((ab_k s1 = 100 ∧ ab_in s0 (ab_n s1)) ∧ Ev d 38 46 [l0, l1, l2, l3] [.int (σ.1 s1 s0.toNatClampNeg)] σ Q) := ev_Hc (c := ab_k s1 = 100 ∧ ab_in s0 (ab_n s1)) d38_45 rfl rfl rfl rfl rfl rfl rfl rfl
theorem d38_46 : decode (ab_C 38) 46 = .ok (.iload_n 1, 1) := by decide +kernel
theorem e38_46 {d : Nat} {l0 l2 l3 : Option Value} {x : Int32} {s0 : Int32} {σ : ab_St} {Q : Option Value → ab_St → Prop} : Ev d 38 46 [l0, some (.int x), l2, l3] [.int s0] σ Q = Ev d 38 47 [l0, some (.int x), l2, l3] [.int x, .int s0] σ Q := ev_A1 d38_46 rfl
theorem d38_47 : decode (ab_C 38) 47 = .ok (.if_icmp .ge 5, 3) := by decide +kernel
theorem e38_47 {d : Nat} {l0 l1 l2 l3 : Option Value} {s0 : Int32} {s1 : Int32} {σ : ab_St} {Q : Option Value → ab_St → Prop} : Ev d 38 47 [l0, l1, l2, l3] [.int s0, .int s1] σ Q = if s0 ≤ s1 then Ev d 38 52 [l0, l1, l2, l3] [] σ Q else Ev d 38 50 [l0, l1, l2, l3] [] σ Q := ev_B (c := s0 ≤ s1) d38_47 rfl rfl rfl rfl rfl
theorem d38_50 : decode (ab_C 38) 50 = .ok (.iconst 0, 1) := by decide +kernel
theorem e38_50 {d : Nat} {l0 l1 l2 l3 : Option Value} {σ : ab_St} {Q : Option Value → ab_St → Prop} : Ev d 38 50 [l0, l1, l2, l3] [] σ Q = Ev d 38 51 [l0, l1, l2, l3] [.int 0] σ Q := ev_A1 d38_50 rfl
theorem d38_51 : decode (ab_C 38) 51 = .ok (.istore_n 2, 1) := by decide +kernel
theorem e38_51 {d : Nat} {l0 l1 l2 l3 : Option Value} {s0 : Int32} {σ : ab_St} {Q : Option Value → ab_St → Prop} : Ev d 38 51 [l0, l1, l2, l3] [.int s0] σ Q = Ev d 38 52 [l0, l1, some (.int s0), l3] [] σ Q := ev_S d38_51 rfl rfl rfl rfl
theorem d38_52 : decode (ab_C 38) 52 = .ok (.aload_n 0, 1) := by decide +kernel
theorem e38_52 {d : Nat} {l1 l2 l3 : Option Value} {x : Nat} {σ : ab_St} {Q : Option Value → ab_St → Prop} : Ev d 38 52 [some (.ref x), l1, l2, l3] [] σ Q = Ev d 38 53 [some (.ref x), l1, l2, l3] [.ref x] σ Q := ev_A1 d38_52 rfl
theorem d38_53 : decode (ab_C 38) 53 = .ok (.getfield 9, 3) := by decide +kernel
theorem e38_53 {d : Nat} {l0 l1 l2 l3 : Option Value} {s0 : Nat} {σ : ab_St} {Q : Option Value → ab_St → Prop} : Ev d 38 53 [l0, l1, l2, l3] [.ref s0] σ Q = (ab_k s0 = 4 ∧ Ev d 38 56 [l0, l1, l2, l3] [.ref (ab_r s0 0)] σ Q) := ev_Hc (c := ab_k s0 = 4) d38_53 rfl rfl rfl rfl rfl rfl rfl rfl
theorem d38_56 : decode (ab_C 38) 56 = .ok (.iload_n 3, 1) := by decide +kernel
theorem e38_56 {d : Nat} {l0 l1 l2 : Option Value} {x : Int32} {s0 : Nat} {σ : ab_St} {Q : Option Value → ab_St → Prop} : Ev d 38 56 [l0, l1, l2, some (.int x)] [.ref s0] σ Q = Ev d 38 57 [l0, l1, l2, some (.int x)] [.int x, .ref s0] σ Q := ev_A1 d38_56 rfl
theorem d38_57 : decode (ab_C 38) 57 = .ok (.iaload, 1) := by decide +kernel
theorem e38_57 {d : Nat} {l0 l1 l2 l3 : Option Value} {s0 : Int32} {s1 : Nat} {σ : ab_St} {Q : Option Value → ab_St → Prop} : Ev d 38 57 [l0, l1, l2, l3] [.int s0, .ref s1] σ Q = ((ab_k s1 = 100 ∧ ab_in s0 (ab_n s1)) ∧ Ev d 38 58 [l0, l1, l2, l3] [.int (σ.1 s1 s0.toNatClampNeg)] σ Q) := ev_Hc (c := ab_k s1 = 100 ∧ ab_in s0 (ab_n s1)) d38_57 rfl rfl rfl rfl rfl rfl rfl rfl
theorem d38_58 : decode (ab_C 38) 58 = .ok (.istore_n 1, 1) := by decide +kernel
theorem e38_58 {d : Nat} {l0 l1 l2 l3 : Option Value} {s0 : Int32} {σ : ab_St} {Q : Option Value → ab_St → Prop} : Ev d 38 58 [l0, l1, l2, l3] [.int s0] σ Q = Ev d 38 59 [l0, some (.int s0), l2, l3] [] σ Q := ev_S d38_58 rfl rfl rfl rfl
theorem d38_59 : decode (ab_C 38) 59 = .ok (.iload_n 2, 1) := by decide +kernel
theorem e38_59 {d : Nat} {l0 l1 l3 : Option Value} {x : Int32} {σ : ab_St} {Q : Option Value → ab_St → Prop} : Ev d 38 59 [l0, l1, some (.int x), l3] [] σ Q = Ev d 38 60 [l0, l1, some (.int x), l3] [.int x] σ Q := ev_A1 d38_59 rfl
theorem d38_60 : decode (ab_C 38) 60 = .ok (.iconst 1, 1) := by decide +kernel
theorem e38_60 {d : Nat} {l0 l1 l2 l3 : Option Value} {s0 : Int32} {σ : ab_St} {Q : Option Value → ab_St → Prop} : Ev d 38 60 [l0, l1, l2, l3] [.int s0] σ Q = Ev d 38 61 [l0, l1, l2, l3] [.int 1, .int s0] σ Q := ev_A1 d38_60 rfl
theorem d38_61 : decode (ab_C 38) 61 = .ok (.iload_n 3, 1) := by decide +kernel
theorem e38_61 {d : Nat} {l0 l1 l2 : Option Value} {x : Int32} {s0 : Int32} {s1 : Int32} {σ : ab_St} {Q : Option Value → ab_St → Prop} : Ev d 38 61 [l0, l1, l2, some (.int x)] [.int s0, .int s1] σ Q = Ev d 38 62 [l0, l1, l2, some (.int x)] [.int x, .int s0, .int s1] σ Q := ev_A1 d38_61 rfl
theorem d38_62 : decode (ab_C 38) 62 = .ok (.ishl, 1) := by decide +kernel
theorem e38_62 {d : Nat} {l0 l1 l2 l3 : Option Value} {s0 : Int32} {s1 : Int32} {s2 : Int32} {σ : ab_St} {Q : Option Value → ab_St → Prop} : Ev d 38 62 [l0, l1, l2, l3] [.int s0, .int s1, .int s2] σ Q = Ev d 38 63 [l0, l1, l2, l3] [.int (s1 <<< (s0 &&& 31)), .int s2] σ Q := ev_A2 d38_62 rfl rfl
theorem d38_63 : decode (ab_C 38) 63 = .ok (.ior, 1) := by decide +kernel
theorem e38_63 {d : Nat} {l0 l1 l2 l3 : Option Value} {s0 : Int32} {s1 : Int32} {σ : ab_St} {Q : Option Value → ab_St → Prop} : Ev d 38 63 [l0, l1, l2, l3] [.int s0, .int s1] σ Q = Ev d 38 64 [l0, l1, l2, l3] [.int (s1 ||| s0)] σ Q := ev_A2 d38_63 rfl rfl
theorem d38_64 : decode (ab_C 38) 64 = .ok (.istore_n 2, 1) := by decide +kernel
theorem e38_64 {d : Nat} {l0 l1 l2 l3 : Option Value} {s0 : Int32} {σ : ab_St} {Q : Option Value → ab_St → Prop} : Ev d 38 64 [l0, l1, l2, l3] [.int s0] σ Q = Ev d 38 65 [l0, l1, some (.int s0), l3] [] σ Q := ev_S d38_64 rfl rfl rfl rfl
theorem d38_65 : decode (ab_C 38) 65 = .ok (.iinc 3 1, 3) := by decide +kernel
theorem e38_65 {d : Nat} {l0 l1 l2 : Option Value} {x : Int32} {σ : ab_St} {Q : Option Value → ab_St → Prop} : Ev d 38 65 [l0, l1, l2, some (.int x)] [] σ Q = Ev d 38 68 [l0, l1, l2, some (.int (x + 1))] [] σ Q := ev_S d38_65 rfl rfl rfl rfl
theorem d38_68 : decode (ab_C 38) 68 = .ok (.goto (-62), 3) := by decide +kernel
theorem e38_68 {d : Nat} {l0 l1 l2 l3 : Option Value} {σ : ab_St} {Q : Option Value → ab_St → Prop} : Ev d 38 68 [l0, l1, l2, l3] [] σ Q = Ev d 38 6 [l0, l1, l2, l3] [] σ Q := ev_J d38_68 rfl rfl rfl rfl rfl
theorem d38_71 : decode (ab_C 38) 71 = .ok (.iload_n 2, 1) := by decide +kernel
theorem e38_71 {d : Nat} {l0 l1 l3 : Option Value} {x : Int32} {σ : ab_St} {Q : Option Value → ab_St → Prop} : Ev d 38 71 [l0, l1, some (.int x), l3] [] σ Q = Ev d 38 72 [l0, l1, some (.int x), l3] [.int x] σ Q := ev_A1 d38_71 rfl
theorem d38_72 : decode (ab_C 38) 72 = .ok (.ireturn, 1) := by decide +kernel
theorem e38_72 {d : Nat} {l0 l1 l2 l3 : Option Value} {s0 : Int32} {σ : ab_St} {Q : Option Value → ab_St → Prop} : Ev d 38 72 [l0, l1, l2, l3] [.int s0] σ Q = Q (some (.int s0)) σ := ev_E d38_72 rfl rfl rfl rfl rfl rfl rfl
/-! SaidLeast$Told.worthOf(I)I -/
theorem d39_0 : decode (ab_C 39) 0 = .ok (.iconst 0, 1) := by decide +kernel
theorem e39_0 {d : Nat} {l0 l1 l2 l3 : Option Value} {σ : ab_St} {Q : Option Value → ab_St → Prop} : Ev d 39 0 [l0, l1, l2, l3] [] σ Q = Ev d 39 1 [l0, l1, l2, l3] [.int 0] σ Q := ev_A1 d39_0 rfl
theorem d39_1 : decode (ab_C 39) 1 = .ok (.istore_n 2, 1) := by decide +kernel
theorem e39_1 {d : Nat} {l0 l1 l2 l3 : Option Value} {s0 : Int32} {σ : ab_St} {Q : Option Value → ab_St → Prop} : Ev d 39 1 [l0, l1, l2, l3] [.int s0] σ Q = Ev d 39 2 [l0, l1, some (.int s0), l3] [] σ Q := ev_S d39_1 rfl rfl rfl rfl
theorem d39_2 : decode (ab_C 39) 2 = .ok (.iconst 0, 1) := by decide +kernel
theorem e39_2 {d : Nat} {l0 l1 l2 l3 : Option Value} {σ : ab_St} {Q : Option Value → ab_St → Prop} : Ev d 39 2 [l0, l1, l2, l3] [] σ Q = Ev d 39 3 [l0, l1, l2, l3] [.int 0] σ Q := ev_A1 d39_2 rfl
theorem d39_3 : decode (ab_C 39) 3 = .ok (.istore_n 3, 1) := by decide +kernel
theorem e39_3 {d : Nat} {l0 l1 l2 l3 : Option Value} {s0 : Int32} {σ : ab_St} {Q : Option Value → ab_St → Prop} : Ev d 39 3 [l0, l1, l2, l3] [.int s0] σ Q = Ev d 39 4 [l0, l1, l2, some (.int s0)] [] σ Q := ev_S d39_3 rfl rfl rfl rfl
theorem d39_4 : decode (ab_C 39) 4 = .ok (.iload_n 3, 1) := by decide +kernel
theorem e39_4 {d : Nat} {l0 l1 l2 : Option Value} {x : Int32} {σ : ab_St} {Q : Option Value → ab_St → Prop} : Ev d 39 4 [l0, l1, l2, some (.int x)] [] σ Q = Ev d 39 5 [l0, l1, l2, some (.int x)] [.int x] σ Q := ev_A1 d39_4 rfl
theorem d39_5 : decode (ab_C 39) 5 = .ok (.aload_n 0, 1) := by decide +kernel
theorem e39_5 {d : Nat} {l1 l2 l3 : Option Value} {x : Nat} {s0 : Int32} {σ : ab_St} {Q : Option Value → ab_St → Prop} : Ev d 39 5 [some (.ref x), l1, l2, l3] [.int s0] σ Q = Ev d 39 6 [some (.ref x), l1, l2, l3] [.ref x, .int s0] σ Q := ev_A1 d39_5 rfl
theorem d39_6 : decode (ab_C 39) 6 = .ok (.getfield 34, 3) := by decide +kernel
theorem e39_6 {d : Nat} {l0 l1 l2 l3 : Option Value} {s0 : Nat} {s1 : Int32} {σ : ab_St} {Q : Option Value → ab_St → Prop} : Ev d 39 6 [l0, l1, l2, l3] [.ref s0, .int s1] σ Q = (ab_k s0 = 3 ∧ Ev d 39 9 [l0, l1, l2, l3] [.int (σ.1 s0 5), .int s1] σ Q) := ev_Hc (c := ab_k s0 = 3) d39_6 rfl rfl rfl rfl rfl rfl rfl rfl
theorem d39_9 : decode (ab_C 39) 9 = .ok (.if_icmp .ge 26, 3) := by decide +kernel
theorem e39_9 {d : Nat} {l0 l1 l2 l3 : Option Value} {s0 : Int32} {s1 : Int32} {σ : ab_St} {Q : Option Value → ab_St → Prop} : Ev d 39 9 [l0, l1, l2, l3] [.int s0, .int s1] σ Q = if s0 ≤ s1 then Ev d 39 35 [l0, l1, l2, l3] [] σ Q else Ev d 39 12 [l0, l1, l2, l3] [] σ Q := ev_B (c := s0 ≤ s1) d39_9 rfl rfl rfl rfl rfl
theorem d39_12 : decode (ab_C 39) 12 = .ok (.iload_n 1, 1) := by decide +kernel
theorem e39_12 {d : Nat} {l0 l2 l3 : Option Value} {x : Int32} {σ : ab_St} {Q : Option Value → ab_St → Prop} : Ev d 39 12 [l0, some (.int x), l2, l3] [] σ Q = Ev d 39 13 [l0, some (.int x), l2, l3] [.int x] σ Q := ev_A1 d39_12 rfl
theorem d39_13 : decode (ab_C 39) 13 = .ok (.iload_n 3, 1) := by decide +kernel
theorem e39_13 {d : Nat} {l0 l1 l2 : Option Value} {x : Int32} {s0 : Int32} {σ : ab_St} {Q : Option Value → ab_St → Prop} : Ev d 39 13 [l0, l1, l2, some (.int x)] [.int s0] σ Q = Ev d 39 14 [l0, l1, l2, some (.int x)] [.int x, .int s0] σ Q := ev_A1 d39_13 rfl
theorem d39_14 : decode (ab_C 39) 14 = .ok (.invokestatic 37, 3) := by decide +kernel
theorem e39_14 {d : Nat} {l0 l1 l2 l3 : Option Value} {s0 : Int32} {s1 : Int32} {σ : ab_St} {Q : Option Value → ab_St → Prop} : Ev (d + 1) 39 14 [l0, l1, l2, l3] [.int s0, .int s1] σ Q = Ev d 32 0 [some (.int s1), some (.int s0)] [] σ (fun r σ2 => Ev (d + 1) 39 17 [l0, l1, l2, l3] (r.toList ++ []) σ2 Q) := ev_K0 (y := 32) (ls := [l0, l1, l2, l3]) (st := [.int s0, .int s1]) (as := [.int s1, .int s0]) (rest := []) d39_14 rfl rfl rfl rfl rfl rfl rfl rfl
theorem d39_17 : decode (ab_C 39) 17 = .ok (.ifCond .eq 12, 3) := by decide +kernel
theorem e39_17 {d : Nat} {l0 l1 l2 l3 : Option Value} {s0 : Int32} {σ : ab_St} {Q : Option Value → ab_St → Prop} : Ev d 39 17 [l0, l1, l2, l3] [.int s0] σ Q = if s0 = 0 then Ev d 39 29 [l0, l1, l2, l3] [] σ Q else Ev d 39 20 [l0, l1, l2, l3] [] σ Q := ev_B (c := s0 = 0) d39_17 rfl rfl rfl rfl rfl
theorem d39_20 : decode (ab_C 39) 20 = .ok (.iload_n 2, 1) := by decide +kernel
theorem e39_20 {d : Nat} {l0 l1 l3 : Option Value} {x : Int32} {σ : ab_St} {Q : Option Value → ab_St → Prop} : Ev d 39 20 [l0, l1, some (.int x), l3] [] σ Q = Ev d 39 21 [l0, l1, some (.int x), l3] [.int x] σ Q := ev_A1 d39_20 rfl
theorem d39_21 : decode (ab_C 39) 21 = .ok (.aload_n 0, 1) := by decide +kernel
theorem e39_21 {d : Nat} {l1 l2 l3 : Option Value} {x : Nat} {s0 : Int32} {σ : ab_St} {Q : Option Value → ab_St → Prop} : Ev d 39 21 [some (.ref x), l1, l2, l3] [.int s0] σ Q = Ev d 39 22 [some (.ref x), l1, l2, l3] [.ref x, .int s0] σ Q := ev_A1 d39_21 rfl
theorem d39_22 : decode (ab_C 39) 22 = .ok (.getfield 18, 3) := by decide +kernel
theorem e39_22 {d : Nat} {l0 l1 l2 l3 : Option Value} {s0 : Nat} {s1 : Int32} {σ : ab_St} {Q : Option Value → ab_St → Prop} : Ev d 39 22 [l0, l1, l2, l3] [.ref s0, .int s1] σ Q = (ab_k s0 = 3 ∧ Ev d 39 25 [l0, l1, l2, l3] [.ref (ab_r s0 2), .int s1] σ Q) := ev_Hc (c := ab_k s0 = 3) d39_22 rfl rfl rfl rfl rfl rfl rfl rfl
theorem d39_25 : decode (ab_C 39) 25 = .ok (.iload_n 3, 1) := by decide +kernel
theorem e39_25 {d : Nat} {l0 l1 l2 : Option Value} {x : Int32} {s0 : Nat} {s1 : Int32} {σ : ab_St} {Q : Option Value → ab_St → Prop} : Ev d 39 25 [l0, l1, l2, some (.int x)] [.ref s0, .int s1] σ Q = Ev d 39 26 [l0, l1, l2, some (.int x)] [.int x, .ref s0, .int s1] σ Q := ev_A1 d39_25 rfl
theorem d39_26 : decode (ab_C 39) 26 = .ok (.iaload, 1) := by decide +kernel
theorem e39_26 {d : Nat} {l0 l1 l2 l3 : Option Value} {s0 : Int32} {s1 : Nat} {s2 : Int32} {σ : ab_St} {Q : Option Value → ab_St → Prop} : Ev d 39 26 [l0, l1, l2, l3] [.int s0, .ref s1, .int s2] σ Q = ((ab_k s1 = 100 ∧ ab_in s0 (ab_n s1)) ∧ Ev d 39 27 [l0, l1, l2, l3] [.int (σ.1 s1 s0.toNatClampNeg), .int s2] σ Q) := ev_Hc (c := ab_k s1 = 100 ∧ ab_in s0 (ab_n s1)) d39_26 rfl rfl rfl rfl rfl rfl rfl rfl
theorem d39_27 : decode (ab_C 39) 27 = .ok (.iadd, 1) := by decide +kernel
theorem e39_27 {d : Nat} {l0 l1 l2 l3 : Option Value} {s0 : Int32} {s1 : Int32} {σ : ab_St} {Q : Option Value → ab_St → Prop} : Ev d 39 27 [l0, l1, l2, l3] [.int s0, .int s1] σ Q = Ev d 39 28 [l0, l1, l2, l3] [.int (s1 + s0)] σ Q := ev_A2 d39_27 rfl rfl
theorem d39_28 : decode (ab_C 39) 28 = .ok (.istore_n 2, 1) := by decide +kernel
theorem e39_28 {d : Nat} {l0 l1 l2 l3 : Option Value} {s0 : Int32} {σ : ab_St} {Q : Option Value → ab_St → Prop} : Ev d 39 28 [l0, l1, l2, l3] [.int s0] σ Q = Ev d 39 29 [l0, l1, some (.int s0), l3] [] σ Q := ev_S d39_28 rfl rfl rfl rfl
theorem d39_29 : decode (ab_C 39) 29 = .ok (.iinc 3 1, 3) := by decide +kernel
theorem e39_29 {d : Nat} {l0 l1 l2 : Option Value} {x : Int32} {σ : ab_St} {Q : Option Value → ab_St → Prop} : Ev d 39 29 [l0, l1, l2, some (.int x)] [] σ Q = Ev d 39 32 [l0, l1, l2, some (.int (x + 1))] [] σ Q := ev_S d39_29 rfl rfl rfl rfl
theorem d39_32 : decode (ab_C 39) 32 = .ok (.goto (-28), 3) := by decide +kernel
theorem e39_32 {d : Nat} {l0 l1 l2 l3 : Option Value} {σ : ab_St} {Q : Option Value → ab_St → Prop} : Ev d 39 32 [l0, l1, l2, l3] [] σ Q = Ev d 39 4 [l0, l1, l2, l3] [] σ Q := ev_J d39_32 rfl rfl rfl rfl rfl
theorem d39_35 : decode (ab_C 39) 35 = .ok (.iload_n 2, 1) := by decide +kernel
theorem e39_35 {d : Nat} {l0 l1 l3 : Option Value} {x : Int32} {σ : ab_St} {Q : Option Value → ab_St → Prop} : Ev d 39 35 [l0, l1, some (.int x), l3] [] σ Q = Ev d 39 36 [l0, l1, some (.int x), l3] [.int x] σ Q := ev_A1 d39_35 rfl
theorem d39_36 : decode (ab_C 39) 36 = .ok (.ireturn, 1) := by decide +kernel
theorem e39_36 {d : Nat} {l0 l1 l2 l3 : Option Value} {s0 : Int32} {σ : ab_St} {Q : Option Value → ab_St → Prop} : Ev d 39 36 [l0, l1, l2, l3] [.int s0] σ Q = Q (some (.int s0)) σ := ev_E d39_36 rfl rfl rfl rfl rfl rfl rfl
/-! SaidLeast$State.wordsThere()I -/
theorem d40_0 : decode (ab_C 40) 0 = .ok (.iconst 0, 1) := by decide +kernel
theorem e40_0 {d : Nat} {l0 l1 l2 : Option Value} {σ : ab_St} {Q : Option Value → ab_St → Prop} : Ev d 40 0 [l0, l1, l2] [] σ Q = Ev d 40 1 [l0, l1, l2] [.int 0] σ Q := ev_A1 d40_0 rfl
theorem d40_1 : decode (ab_C 40) 1 = .ok (.istore_n 1, 1) := by decide +kernel
theorem e40_1 {d : Nat} {l0 l1 l2 : Option Value} {s0 : Int32} {σ : ab_St} {Q : Option Value → ab_St → Prop} : Ev d 40 1 [l0, l1, l2] [.int s0] σ Q = Ev d 40 2 [l0, some (.int s0), l2] [] σ Q := ev_S d40_1 rfl rfl rfl rfl
theorem d40_2 : decode (ab_C 40) 2 = .ok (.iconst 0, 1) := by decide +kernel
theorem e40_2 {d : Nat} {l0 l1 l2 : Option Value} {σ : ab_St} {Q : Option Value → ab_St → Prop} : Ev d 40 2 [l0, l1, l2] [] σ Q = Ev d 40 3 [l0, l1, l2] [.int 0] σ Q := ev_A1 d40_2 rfl
theorem d40_3 : decode (ab_C 40) 3 = .ok (.istore_n 2, 1) := by decide +kernel
theorem e40_3 {d : Nat} {l0 l1 l2 : Option Value} {s0 : Int32} {σ : ab_St} {Q : Option Value → ab_St → Prop} : Ev d 40 3 [l0, l1, l2] [.int s0] σ Q = Ev d 40 4 [l0, l1, some (.int s0)] [] σ Q := ev_S d40_3 rfl rfl rfl rfl
theorem d40_4 : decode (ab_C 40) 4 = .ok (.iload_n 2, 1) := by decide +kernel
theorem e40_4 {d : Nat} {l0 l1 : Option Value} {x : Int32} {σ : ab_St} {Q : Option Value → ab_St → Prop} : Ev d 40 4 [l0, l1, some (.int x)] [] σ Q = Ev d 40 5 [l0, l1, some (.int x)] [.int x] σ Q := ev_A1 d40_4 rfl
theorem d40_5 : decode (ab_C 40) 5 = .ok (.bipush 6, 2) := by decide +kernel
theorem e40_5 {d : Nat} {l0 l1 l2 : Option Value} {s0 : Int32} {σ : ab_St} {Q : Option Value → ab_St → Prop} : Ev d 40 5 [l0, l1, l2] [.int s0] σ Q = Ev d 40 7 [l0, l1, l2] [.int 6, .int s0] σ Q := ev_A1 d40_5 rfl
theorem d40_7 : decode (ab_C 40) 7 = .ok (.if_icmp .ge 29, 3) := by decide +kernel
theorem e40_7 {d : Nat} {l0 l1 l2 : Option Value} {s0 : Int32} {s1 : Int32} {σ : ab_St} {Q : Option Value → ab_St → Prop} : Ev d 40 7 [l0, l1, l2] [.int s0, .int s1] σ Q = if s0 ≤ s1 then Ev d 40 36 [l0, l1, l2] [] σ Q else Ev d 40 10 [l0, l1, l2] [] σ Q := ev_B (c := s0 ≤ s1) d40_7 rfl rfl rfl rfl rfl
theorem d40_10 : decode (ab_C 40) 10 = .ok (.aload_n 0, 1) := by decide +kernel
theorem e40_10 {d : Nat} {l1 l2 : Option Value} {x : Nat} {σ : ab_St} {Q : Option Value → ab_St → Prop} : Ev d 40 10 [some (.ref x), l1, l2] [] σ Q = Ev d 40 11 [some (.ref x), l1, l2] [.ref x] σ Q := ev_A1 d40_10 rfl
theorem d40_11 : decode (ab_C 40) 11 = .ok (.getfield 25, 3) := by decide +kernel
theorem e40_11 {d : Nat} {l0 l1 l2 : Option Value} {s0 : Nat} {σ : ab_St} {Q : Option Value → ab_St → Prop} : Ev d 40 11 [l0, l1, l2] [.ref s0] σ Q = (ab_k s0 = 4 ∧ Ev d 40 14 [l0, l1, l2] [.int (σ.1 s0 1)] σ Q) := ev_Hc (c := ab_k s0 = 4) d40_11 rfl rfl rfl rfl rfl rfl rfl rfl
theorem d40_14 : decode (ab_C 40) 14 = .ok (.iload_n 2, 1) := by decide +kernel
theorem e40_14 {d : Nat} {l0 l1 : Option Value} {x : Int32} {s0 : Int32} {σ : ab_St} {Q : Option Value → ab_St → Prop} : Ev d 40 14 [l0, l1, some (.int x)] [.int s0] σ Q = Ev d 40 15 [l0, l1, some (.int x)] [.int x, .int s0] σ Q := ev_A1 d40_14 rfl
theorem d40_15 : decode (ab_C 40) 15 = .ok (.invokestatic 40, 3) := by decide +kernel
theorem e40_15 {d : Nat} {l0 l1 l2 : Option Value} {s0 : Int32} {s1 : Int32} {σ : ab_St} {Q : Option Value → ab_St → Prop} : Ev (d + 1) 40 15 [l0, l1, l2] [.int s0, .int s1] σ Q = Ev d 32 0 [some (.int s1), some (.int s0)] [] σ (fun r σ2 => Ev (d + 1) 40 18 [l0, l1, l2] (r.toList ++ []) σ2 Q) := ev_K0 (y := 32) (ls := [l0, l1, l2]) (st := [.int s0, .int s1]) (as := [.int s1, .int s0]) (rest := []) d40_15 rfl rfl rfl rfl rfl rfl rfl rfl
theorem d40_18 : decode (ab_C 40) 18 = .ok (.ifCond .eq 12, 3) := by decide +kernel
theorem e40_18 {d : Nat} {l0 l1 l2 : Option Value} {s0 : Int32} {σ : ab_St} {Q : Option Value → ab_St → Prop} : Ev d 40 18 [l0, l1, l2] [.int s0] σ Q = if s0 = 0 then Ev d 40 30 [l0, l1, l2] [] σ Q else Ev d 40 21 [l0, l1, l2] [] σ Q := ev_B (c := s0 = 0) d40_18 rfl rfl rfl rfl rfl
theorem d40_21 : decode (ab_C 40) 21 = .ok (.iload_n 1, 1) := by decide +kernel
theorem e40_21 {d : Nat} {l0 l2 : Option Value} {x : Int32} {σ : ab_St} {Q : Option Value → ab_St → Prop} : Ev d 40 21 [l0, some (.int x), l2] [] σ Q = Ev d 40 22 [l0, some (.int x), l2] [.int x] σ Q := ev_A1 d40_21 rfl
theorem d40_22 : decode (ab_C 40) 22 = .ok (.aload_n 0, 1) := by decide +kernel
theorem e40_22 {d : Nat} {l1 l2 : Option Value} {x : Nat} {s0 : Int32} {σ : ab_St} {Q : Option Value → ab_St → Prop} : Ev d 40 22 [some (.ref x), l1, l2] [.int s0] σ Q = Ev d 40 23 [some (.ref x), l1, l2] [.ref x, .int s0] σ Q := ev_A1 d40_22 rfl
theorem d40_23 : decode (ab_C 40) 23 = .ok (.getfield 9, 3) := by decide +kernel
theorem e40_23 {d : Nat} {l0 l1 l2 : Option Value} {s0 : Nat} {s1 : Int32} {σ : ab_St} {Q : Option Value → ab_St → Prop} : Ev d 40 23 [l0, l1, l2] [.ref s0, .int s1] σ Q = (ab_k s0 = 4 ∧ Ev d 40 26 [l0, l1, l2] [.ref (ab_r s0 0), .int s1] σ Q) := ev_Hc (c := ab_k s0 = 4) d40_23 rfl rfl rfl rfl rfl rfl rfl rfl
theorem d40_26 : decode (ab_C 40) 26 = .ok (.iload_n 2, 1) := by decide +kernel
theorem e40_26 {d : Nat} {l0 l1 : Option Value} {x : Int32} {s0 : Nat} {s1 : Int32} {σ : ab_St} {Q : Option Value → ab_St → Prop} : Ev d 40 26 [l0, l1, some (.int x)] [.ref s0, .int s1] σ Q = Ev d 40 27 [l0, l1, some (.int x)] [.int x, .ref s0, .int s1] σ Q := ev_A1 d40_26 rfl
theorem d40_27 : decode (ab_C 40) 27 = .ok (.iaload, 1) := by decide +kernel
theorem e40_27 {d : Nat} {l0 l1 l2 : Option Value} {s0 : Int32} {s1 : Nat} {s2 : Int32} {σ : ab_St} {Q : Option Value → ab_St → Prop} : Ev d 40 27 [l0, l1, l2] [.int s0, .ref s1, .int s2] σ Q = ((ab_k s1 = 100 ∧ ab_in s0 (ab_n s1)) ∧ Ev d 40 28 [l0, l1, l2] [.int (σ.1 s1 s0.toNatClampNeg), .int s2] σ Q) := ev_Hc (c := ab_k s1 = 100 ∧ ab_in s0 (ab_n s1)) d40_27 rfl rfl rfl rfl rfl rfl rfl rfl
theorem d40_28 : decode (ab_C 40) 28 = .ok (.iadd, 1) := by decide +kernel
theorem e40_28 {d : Nat} {l0 l1 l2 : Option Value} {s0 : Int32} {s1 : Int32} {σ : ab_St} {Q : Option Value → ab_St → Prop} : Ev d 40 28 [l0, l1, l2] [.int s0, .int s1] σ Q = Ev d 40 29 [l0, l1, l2] [.int (s1 + s0)] σ Q := ev_A2 d40_28 rfl rfl
theorem d40_29 : decode (ab_C 40) 29 = .ok (.istore_n 1, 1) := by decide +kernel
theorem e40_29 {d : Nat} {l0 l1 l2 : Option Value} {s0 : Int32} {σ : ab_St} {Q : Option Value → ab_St → Prop} : Ev d 40 29 [l0, l1, l2] [.int s0] σ Q = Ev d 40 30 [l0, some (.int s0), l2] [] σ Q := ev_S d40_29 rfl rfl rfl rfl
theorem d40_30 : decode (ab_C 40) 30 = .ok (.iinc 2 1, 3) := by decide +kernel
theorem e40_30 {d : Nat} {l0 l1 : Option Value} {x : Int32} {σ : ab_St} {Q : Option Value → ab_St → Prop} : Ev d 40 30 [l0, l1, some (.int x)] [] σ Q = Ev d 40 33 [l0, l1, some (.int (x + 1))] [] σ Q := ev_S d40_30 rfl rfl rfl rfl
theorem d40_33 : decode (ab_C 40) 33 = .ok (.goto (-29), 3) := by decide +kernel
theorem e40_33 {d : Nat} {l0 l1 l2 : Option Value} {σ : ab_St} {Q : Option Value → ab_St → Prop} : Ev d 40 33 [l0, l1, l2] [] σ Q = Ev d 40 4 [l0, l1, l2] [] σ Q := ev_J d40_33 rfl rfl rfl rfl rfl
theorem d40_36 : decode (ab_C 40) 36 = .ok (.iload_n 1, 1) := by decide +kernel
theorem e40_36 {d : Nat} {l0 l2 : Option Value} {x : Int32} {σ : ab_St} {Q : Option Value → ab_St → Prop} : Ev d 40 36 [l0, some (.int x), l2] [] σ Q = Ev d 40 37 [l0, some (.int x), l2] [.int x] σ Q := ev_A1 d40_36 rfl
theorem d40_37 : decode (ab_C 40) 37 = .ok (.ireturn, 1) := by decide +kernel
theorem e40_37 {d : Nat} {l0 l1 l2 : Option Value} {s0 : Int32} {σ : ab_St} {Q : Option Value → ab_St → Prop} : Ev d 40 37 [l0, l1, l2] [.int s0] σ Q = Q (some (.int s0)) σ := ev_E d40_37 rfl rfl rfl rfl rfl rfl rfl
/-! SaidLeast.person(II)I -/
theorem d41_0 : decode (ab_C 41) 0 = .ok (.aload_n 0, 1) := by decide +kernel
theorem e41_0 {d : Nat} {l1 l2 : Option Value} {x : Nat} {σ : ab_St} {Q : Option Value → ab_St → Prop} : Ev d 41 0 [some (.ref x), l1, l2] [] σ Q = Ev d 41 1 [some (.ref x), l1, l2] [.ref x] σ Q := ev_A1 d41_0 rfl
theorem d41_1 : decode (ab_C 41) 1 = .ok (.getfield 26, 3) := by decide +kernel
theorem e41_1 {d : Nat} {l0 l1 l2 : Option Value} {s0 : Nat} {σ : ab_St} {Q : Option Value → ab_St → Prop} : Ev d 41 1 [l0, l1, l2] [.ref s0] σ Q = (ab_k s0 = 0 ∧ Ev d 41 4 [l0, l1, l2] [.ref (ab_r s0 2)] σ Q) := ev_Hc (c := ab_k s0 = 0) d41_1 rfl rfl rfl rfl rfl rfl rfl rfl
theorem d41_4 : decode (ab_C 41) 4 = .ok (.iload_n 1, 1) := by decide +kernel
theorem e41_4 {d : Nat} {l0 l2 : Option Value} {x : Int32} {s0 : Nat} {σ : ab_St} {Q : Option Value → ab_St → Prop} : Ev d 41 4 [l0, some (.int x), l2] [.ref s0] σ Q = Ev d 41 5 [l0, some (.int x), l2] [.int x, .ref s0] σ Q := ev_A1 d41_4 rfl
theorem d41_5 : decode (ab_C 41) 5 = .ok (.invokevirtual 133, 3) := by decide +kernel
theorem e41_5 {d : Nat} {l0 l1 l2 : Option Value} {s0 : Int32} {s1 : Nat} {σ : ab_St} {Q : Option Value → ab_St → Prop} : Ev (d + 1) 41 5 [l0, l1, l2] [.int s0, .ref s1] σ Q = (ab_k s1 = 3 ∧ Ev d 26 0 [some (.ref s1), some (.int s0)] [] σ (fun r σ2 => Ev (d + 1) 41 8 [l0, l1, l2] (r.toList ++ []) σ2 Q)) := ev_KV (b := s1) (ls := [l0, l1, l2]) (st := [.int s0, .ref s1]) (as := [.int s0]) (rest := []) d41_5 rfl rfl rfl (Nat.le_of_ble_eq_true rfl) (Nat.le_of_ble_eq_true rfl) (Nat.le_of_ble_eq_true rfl) rfl rfl rfl rfl rfl rfl rfl
theorem d41_8 : decode (ab_C 41) 8 = .ok (.ifCond .ne 5, 3) := by decide +kernel
theorem e41_8 {d : Nat} {l0 l1 l2 : Option Value} {s0 : Int32} {σ : ab_St} {Q : Option Value → ab_St → Prop} : Ev d 41 8 [l0, l1, l2] [.int s0] σ Q = if s0 = 0 then Ev d 41 11 [l0, l1, l2] [] σ Q else Ev d 41 13 [l0, l1, l2] [] σ Q := ev_B (c := s0 = 0) d41_8 rfl rfl rfl rfl rfl
theorem d41_11 : decode (ab_C 41) 11 = .ok (.iconst (-1), 1) := by decide +kernel
theorem e41_11 {d : Nat} {l0 l1 l2 : Option Value} {σ : ab_St} {Q : Option Value → ab_St → Prop} : Ev d 41 11 [l0, l1, l2] [] σ Q = Ev d 41 12 [l0, l1, l2] [.int (-1)] σ Q := ev_A1 d41_11 rfl
theorem d41_12 : decode (ab_C 41) 12 = .ok (.ireturn, 1) := by decide +kernel
theorem e41_12 {d : Nat} {l0 l1 l2 : Option Value} {s0 : Int32} {σ : ab_St} {Q : Option Value → ab_St → Prop} : Ev d 41 12 [l0, l1, l2] [.int s0] σ Q = Q (some (.int s0)) σ := ev_E d41_12 rfl rfl rfl rfl rfl rfl rfl
theorem d41_13 : decode (ab_C 41) 13 = .ok (.iload_n 2, 1) := by decide +kernel
theorem e41_13 {d : Nat} {l0 l1 : Option Value} {x : Int32} {σ : ab_St} {Q : Option Value → ab_St → Prop} : Ev d 41 13 [l0, l1, some (.int x)] [] σ Q = Ev d 41 14 [l0, l1, some (.int x)] [.int x] σ Q := ev_A1 d41_13 rfl
theorem d41_14 : decode (ab_C 41) 14 = .ok (.tableswitch 104 0 3 #[30, 40, 60, 80], 30) := by decide +kernel
theorem e41_14 {d : Nat} {l0 l1 l2 : Option Value} {s0 : Int32} {σ : ab_St} {Q : Option Value → ab_St → Prop} : Ev d 41 14 [l0, l1, l2] [.int s0] σ Q = if s0 = 0 then Ev d 41 44 [l0, l1, l2] [] σ Q else if s0 = 1 then Ev d 41 54 [l0, l1, l2] [] σ Q else if s0 = 2 then Ev d 41 74 [l0, l1, l2] [] σ Q else if s0 = 3 then Ev d 41 94 [l0, l1, l2] [] σ Q else Ev d 41 118 [l0, l1, l2] [] σ Q := ev_T (ts := [44, 54, 74, 94]) (df := 118) d41_14 (by decide +kernel)
theorem d41_44 : decode (ab_C 41) 44 = .ok (.aload_n 0, 1) := by decide +kernel
theorem e41_44 {d : Nat} {l1 l2 : Option Value} {x : Nat} {σ : ab_St} {Q : Option Value → ab_St → Prop} : Ev d 41 44 [some (.ref x), l1, l2] [] σ Q = Ev d 41 45 [some (.ref x), l1, l2] [.ref x] σ Q := ev_A1 d41_44 rfl
theorem d41_45 : decode (ab_C 41) 45 = .ok (.getfield 33, 3) := by decide +kernel
theorem e41_45 {d : Nat} {l0 l1 l2 : Option Value} {s0 : Nat} {σ : ab_St} {Q : Option Value → ab_St → Prop} : Ev d 41 45 [l0, l1, l2] [.ref s0] σ Q = (ab_k s0 = 0 ∧ Ev d 41 48 [l0, l1, l2] [.ref (ab_r s0 3)] σ Q) := ev_Hc (c := ab_k s0 = 0) d41_45 rfl rfl rfl rfl rfl rfl rfl rfl
theorem d41_48 : decode (ab_C 41) 48 = .ok (.getfield 137, 3) := by decide +kernel
theorem e41_48 {d : Nat} {l0 l1 l2 : Option Value} {s0 : Nat} {σ : ab_St} {Q : Option Value → ab_St → Prop} : Ev d 41 48 [l0, l1, l2] [.ref s0] σ Q = (ab_k s0 = 4 ∧ Ev d 41 51 [l0, l1, l2] [.ref (ab_r s0 0)] σ Q) := ev_Hc (c := ab_k s0 = 4) d41_48 rfl rfl rfl rfl rfl rfl rfl rfl
theorem d41_51 : decode (ab_C 41) 51 = .ok (.iload_n 1, 1) := by decide +kernel
theorem e41_51 {d : Nat} {l0 l2 : Option Value} {x : Int32} {s0 : Nat} {σ : ab_St} {Q : Option Value → ab_St → Prop} : Ev d 41 51 [l0, some (.int x), l2] [.ref s0] σ Q = Ev d 41 52 [l0, some (.int x), l2] [.int x, .ref s0] σ Q := ev_A1 d41_51 rfl
theorem d41_52 : decode (ab_C 41) 52 = .ok (.iaload, 1) := by decide +kernel
theorem e41_52 {d : Nat} {l0 l1 l2 : Option Value} {s0 : Int32} {s1 : Nat} {σ : ab_St} {Q : Option Value → ab_St → Prop} : Ev d 41 52 [l0, l1, l2] [.int s0, .ref s1] σ Q = ((ab_k s1 = 100 ∧ ab_in s0 (ab_n s1)) ∧ Ev d 41 53 [l0, l1, l2] [.int (σ.1 s1 s0.toNatClampNeg)] σ Q) := ev_Hc (c := ab_k s1 = 100 ∧ ab_in s0 (ab_n s1)) d41_52 rfl rfl rfl rfl rfl rfl rfl rfl
theorem d41_53 : decode (ab_C 41) 53 = .ok (.ireturn, 1) := by decide +kernel
theorem e41_53 {d : Nat} {l0 l1 l2 : Option Value} {s0 : Int32} {σ : ab_St} {Q : Option Value → ab_St → Prop} : Ev d 41 53 [l0, l1, l2] [.int s0] σ Q = Q (some (.int s0)) σ := ev_E d41_53 rfl rfl rfl rfl rfl rfl rfl
theorem d41_54 : decode (ab_C 41) 54 = .ok (.aload_n 0, 1) := by decide +kernel
theorem e41_54 {d : Nat} {l1 l2 : Option Value} {x : Nat} {σ : ab_St} {Q : Option Value → ab_St → Prop} : Ev d 41 54 [some (.ref x), l1, l2] [] σ Q = Ev d 41 55 [some (.ref x), l1, l2] [.ref x] σ Q := ev_A1 d41_54 rfl
theorem d41_55 : decode (ab_C 41) 55 = .ok (.getfield 33, 3) := by decide +kernel
theorem e41_55 {d : Nat} {l0 l1 l2 : Option Value} {s0 : Nat} {σ : ab_St} {Q : Option Value → ab_St → Prop} : Ev d 41 55 [l0, l1, l2] [.ref s0] σ Q = (ab_k s0 = 0 ∧ Ev d 41 58 [l0, l1, l2] [.ref (ab_r s0 3)] σ Q) := ev_Hc (c := ab_k s0 = 0) d41_55 rfl rfl rfl rfl rfl rfl rfl rfl
theorem d41_58 : decode (ab_C 41) 58 = .ok (.getfield 110, 3) := by decide +kernel
theorem e41_58 {d : Nat} {l0 l1 l2 : Option Value} {s0 : Nat} {σ : ab_St} {Q : Option Value → ab_St → Prop} : Ev d 41 58 [l0, l1, l2] [.ref s0] σ Q = (ab_k s0 = 4 ∧ Ev d 41 61 [l0, l1, l2] [.int (σ.1 s0 1)] σ Q) := ev_Hc (c := ab_k s0 = 4) d41_58 rfl rfl rfl rfl rfl rfl rfl rfl
theorem d41_61 : decode (ab_C 41) 61 = .ok (.iload_n 1, 1) := by decide +kernel
theorem e41_61 {d : Nat} {l0 l2 : Option Value} {x : Int32} {s0 : Int32} {σ : ab_St} {Q : Option Value → ab_St → Prop} : Ev d 41 61 [l0, some (.int x), l2] [.int s0] σ Q = Ev d 41 62 [l0, some (.int x), l2] [.int x, .int s0] σ Q := ev_A1 d41_61 rfl
theorem d41_62 : decode (ab_C 41) 62 = .ok (.invokestatic 141, 3) := by decide +kernel
theorem e41_62 {d : Nat} {l0 l1 l2 : Option Value} {s0 : Int32} {s1 : Int32} {σ : ab_St} {Q : Option Value → ab_St → Prop} : Ev (d + 1) 41 62 [l0, l1, l2] [.int s0, .int s1] σ Q = Ev d 32 0 [some (.int s1), some (.int s0)] [] σ (fun r σ2 => Ev (d + 1) 41 65 [l0, l1, l2] (r.toList ++ []) σ2 Q) := ev_K0 (y := 32) (ls := [l0, l1, l2]) (st := [.int s0, .int s1]) (as := [.int s1, .int s0]) (rest := []) d41_62 rfl rfl rfl rfl rfl rfl rfl rfl
theorem d41_65 : decode (ab_C 41) 65 = .ok (.ifCond .eq 7, 3) := by decide +kernel
theorem e41_65 {d : Nat} {l0 l1 l2 : Option Value} {s0 : Int32} {σ : ab_St} {Q : Option Value → ab_St → Prop} : Ev d 41 65 [l0, l1, l2] [.int s0] σ Q = if s0 = 0 then Ev d 41 72 [l0, l1, l2] [] σ Q else Ev d 41 68 [l0, l1, l2] [] σ Q := ev_B (c := s0 = 0) d41_65 rfl rfl rfl rfl rfl
theorem d41_68 : decode (ab_C 41) 68 = .ok (.iconst 1, 1) := by decide +kernel
theorem e41_68 {d : Nat} {l0 l1 l2 : Option Value} {σ : ab_St} {Q : Option Value → ab_St → Prop} : Ev d 41 68 [l0, l1, l2] [] σ Q = Ev d 41 69 [l0, l1, l2] [.int 1] σ Q := ev_A1 d41_68 rfl
theorem d41_69 : decode (ab_C 41) 69 = .ok (.goto 4, 3) := by decide +kernel
theorem e41_69 {d : Nat} {l0 l1 l2 : Option Value} {s0 : Int32} {σ : ab_St} {Q : Option Value → ab_St → Prop} : Ev d 41 69 [l0, l1, l2] [.int s0] σ Q = Ev d 41 73 [l0, l1, l2] [.int s0] σ Q := ev_J d41_69 rfl rfl rfl rfl rfl
theorem d41_72 : decode (ab_C 41) 72 = .ok (.iconst 0, 1) := by decide +kernel
theorem e41_72 {d : Nat} {l0 l1 l2 : Option Value} {σ : ab_St} {Q : Option Value → ab_St → Prop} : Ev d 41 72 [l0, l1, l2] [] σ Q = Ev d 41 73 [l0, l1, l2] [.int 0] σ Q := ev_A1 d41_72 rfl
theorem d41_73 : decode (ab_C 41) 73 = .ok (.ireturn, 1) := by decide +kernel
theorem e41_73 {d : Nat} {l0 l1 l2 : Option Value} {s0 : Int32} {σ : ab_St} {Q : Option Value → ab_St → Prop} : Ev d 41 73 [l0, l1, l2] [.int s0] σ Q = Q (some (.int s0)) σ := ev_E d41_73 rfl rfl rfl rfl rfl rfl rfl
theorem d41_74 : decode (ab_C 41) 74 = .ok (.aload_n 0, 1) := by decide +kernel
theorem e41_74 {d : Nat} {l1 l2 : Option Value} {x : Nat} {σ : ab_St} {Q : Option Value → ab_St → Prop} : Ev d 41 74 [some (.ref x), l1, l2] [] σ Q = Ev d 41 75 [some (.ref x), l1, l2] [.ref x] σ Q := ev_A1 d41_74 rfl
theorem d41_75 : decode (ab_C 41) 75 = .ok (.getfield 33, 3) := by decide +kernel
theorem e41_75 {d : Nat} {l0 l1 l2 : Option Value} {s0 : Nat} {σ : ab_St} {Q : Option Value → ab_St → Prop} : Ev d 41 75 [l0, l1, l2] [.ref s0] σ Q = (ab_k s0 = 0 ∧ Ev d 41 78 [l0, l1, l2] [.ref (ab_r s0 3)] σ Q) := ev_Hc (c := ab_k s0 = 0) d41_75 rfl rfl rfl rfl rfl rfl rfl rfl
theorem d41_78 : decode (ab_C 41) 78 = .ok (.invokevirtual 113, 3) := by decide +kernel
theorem e41_78 {d : Nat} {l0 l1 l2 : Option Value} {s0 : Nat} {σ : ab_St} {Q : Option Value → ab_St → Prop} : Ev (d + 1) 41 78 [l0, l1, l2] [.ref s0] σ Q = (ab_k s0 = 4 ∧ Ev d 38 0 [some (.ref s0), none, none, none] [] σ (fun r σ2 => Ev (d + 1) 41 81 [l0, l1, l2] (r.toList ++ []) σ2 Q)) := ev_KV (b := s0) (ls := [l0, l1, l2]) (st := [.ref s0]) (as := []) (rest := []) d41_78 rfl rfl rfl (Nat.le_of_ble_eq_true rfl) (Nat.le_of_ble_eq_true rfl) (Nat.le_of_ble_eq_true rfl) rfl rfl rfl rfl rfl rfl rfl
theorem d41_81 : decode (ab_C 41) 81 = .ok (.iload_n 1, 1) := by decide +kernel
theorem e41_81 {d : Nat} {l0 l2 : Option Value} {x : Int32} {s0 : Int32} {σ : ab_St} {Q : Option Value → ab_St → Prop} : Ev d 41 81 [l0, some (.int x), l2] [.int s0] σ Q = Ev d 41 82 [l0, some (.int x), l2] [.int x, .int s0] σ Q := ev_A1 d41_81 rfl
theorem d41_82 : decode (ab_C 41) 82 = .ok (.invokestatic 141, 3) := by decide +kernel
theorem e41_82 {d : Nat} {l0 l1 l2 : Option Value} {s0 : Int32} {s1 : Int32} {σ : ab_St} {Q : Option Value → ab_St → Prop} : Ev (d + 1) 41 82 [l0, l1, l2] [.int s0, .int s1] σ Q = Ev d 32 0 [some (.int s1), some (.int s0)] [] σ (fun r σ2 => Ev (d + 1) 41 85 [l0, l1, l2] (r.toList ++ []) σ2 Q) := ev_K0 (y := 32) (ls := [l0, l1, l2]) (st := [.int s0, .int s1]) (as := [.int s1, .int s0]) (rest := []) d41_82 rfl rfl rfl rfl rfl rfl rfl rfl
theorem d41_85 : decode (ab_C 41) 85 = .ok (.ifCond .eq 7, 3) := by decide +kernel
theorem e41_85 {d : Nat} {l0 l1 l2 : Option Value} {s0 : Int32} {σ : ab_St} {Q : Option Value → ab_St → Prop} : Ev d 41 85 [l0, l1, l2] [.int s0] σ Q = if s0 = 0 then Ev d 41 92 [l0, l1, l2] [] σ Q else Ev d 41 88 [l0, l1, l2] [] σ Q := ev_B (c := s0 = 0) d41_85 rfl rfl rfl rfl rfl
theorem d41_88 : decode (ab_C 41) 88 = .ok (.iconst 1, 1) := by decide +kernel
theorem e41_88 {d : Nat} {l0 l1 l2 : Option Value} {σ : ab_St} {Q : Option Value → ab_St → Prop} : Ev d 41 88 [l0, l1, l2] [] σ Q = Ev d 41 89 [l0, l1, l2] [.int 1] σ Q := ev_A1 d41_88 rfl
theorem d41_89 : decode (ab_C 41) 89 = .ok (.goto 4, 3) := by decide +kernel
theorem e41_89 {d : Nat} {l0 l1 l2 : Option Value} {s0 : Int32} {σ : ab_St} {Q : Option Value → ab_St → Prop} : Ev d 41 89 [l0, l1, l2] [.int s0] σ Q = Ev d 41 93 [l0, l1, l2] [.int s0] σ Q := ev_J d41_89 rfl rfl rfl rfl rfl
theorem d41_92 : decode (ab_C 41) 92 = .ok (.iconst 0, 1) := by decide +kernel
theorem e41_92 {d : Nat} {l0 l1 l2 : Option Value} {σ : ab_St} {Q : Option Value → ab_St → Prop} : Ev d 41 92 [l0, l1, l2] [] σ Q = Ev d 41 93 [l0, l1, l2] [.int 0] σ Q := ev_A1 d41_92 rfl
theorem d41_93 : decode (ab_C 41) 93 = .ok (.ireturn, 1) := by decide +kernel
theorem e41_93 {d : Nat} {l0 l1 l2 : Option Value} {s0 : Int32} {σ : ab_St} {Q : Option Value → ab_St → Prop} : Ev d 41 93 [l0, l1, l2] [.int s0] σ Q = Q (some (.int s0)) σ := ev_E d41_93 rfl rfl rfl rfl rfl rfl rfl
theorem d41_94 : decode (ab_C 41) 94 = .ok (.aload_n 0, 1) := by decide +kernel
theorem e41_94 {d : Nat} {l1 l2 : Option Value} {x : Nat} {σ : ab_St} {Q : Option Value → ab_St → Prop} : Ev d 41 94 [some (.ref x), l1, l2] [] σ Q = Ev d 41 95 [some (.ref x), l1, l2] [.ref x] σ Q := ev_A1 d41_94 rfl
theorem d41_95 : decode (ab_C 41) 95 = .ok (.getfield 26, 3) := by decide +kernel
theorem e41_95 {d : Nat} {l0 l1 l2 : Option Value} {s0 : Nat} {σ : ab_St} {Q : Option Value → ab_St → Prop} : Ev d 41 95 [l0, l1, l2] [.ref s0] σ Q = (ab_k s0 = 0 ∧ Ev d 41 98 [l0, l1, l2] [.ref (ab_r s0 2)] σ Q) := ev_Hc (c := ab_k s0 = 0) d41_95 rfl rfl rfl rfl rfl rfl rfl rfl
theorem d41_98 : decode (ab_C 41) 98 = .ok (.aload_n 0, 1) := by decide +kernel
theorem e41_98 {d : Nat} {l1 l2 : Option Value} {x : Nat} {s0 : Nat} {σ : ab_St} {Q : Option Value → ab_St → Prop} : Ev d 41 98 [some (.ref x), l1, l2] [.ref s0] σ Q = Ev d 41 99 [some (.ref x), l1, l2] [.ref x, .ref s0] σ Q := ev_A1 d41_98 rfl
theorem d41_99 : decode (ab_C 41) 99 = .ok (.getfield 33, 3) := by decide +kernel
theorem e41_99 {d : Nat} {l0 l1 l2 : Option Value} {s0 : Nat} {s1 : Nat} {σ : ab_St} {Q : Option Value → ab_St → Prop} : Ev d 41 99 [l0, l1, l2] [.ref s0, .ref s1] σ Q = (ab_k s0 = 0 ∧ Ev d 41 102 [l0, l1, l2] [.ref (ab_r s0 3), .ref s1] σ Q) := ev_Hc (c := ab_k s0 = 0) d41_99 rfl rfl rfl rfl rfl rfl rfl rfl
theorem d41_102 : decode (ab_C 41) 102 = .ok (.getfield 117, 3) := by decide +kernel
theorem e41_102 {d : Nat} {l0 l1 l2 : Option Value} {s0 : Nat} {s1 : Nat} {σ : ab_St} {Q : Option Value → ab_St → Prop} : Ev d 41 102 [l0, l1, l2] [.ref s0, .ref s1] σ Q = (ab_k s0 = 4 ∧ Ev d 41 105 [l0, l1, l2] [.int (σ.1 s0 2), .ref s1] σ Q) := ev_Hc (c := ab_k s0 = 4) d41_102 rfl rfl rfl rfl rfl rfl rfl rfl
theorem d41_105 : decode (ab_C 41) 105 = .ok (.aload_n 0, 1) := by decide +kernel
theorem e41_105 {d : Nat} {l1 l2 : Option Value} {x : Nat} {s0 : Int32} {s1 : Nat} {σ : ab_St} {Q : Option Value → ab_St → Prop} : Ev d 41 105 [some (.ref x), l1, l2] [.int s0, .ref s1] σ Q = Ev d 41 106 [some (.ref x), l1, l2] [.ref x, .int s0, .ref s1] σ Q := ev_A1 d41_105 rfl
theorem d41_106 : decode (ab_C 41) 106 = .ok (.getfield 26, 3) := by decide +kernel
theorem e41_106 {d : Nat} {l0 l1 l2 : Option Value} {s0 : Nat} {s1 : Int32} {s2 : Nat} {σ : ab_St} {Q : Option Value → ab_St → Prop} : Ev d 41 106 [l0, l1, l2] [.ref s0, .int s1, .ref s2] σ Q = (ab_k s0 = 0 ∧ Ev d 41 109 [l0, l1, l2] [.ref (ab_r s0 2), .int s1, .ref s2] σ Q) := ev_Hc (c := ab_k s0 = 0) d41_106 rfl rfl rfl rfl rfl rfl rfl rfl
theorem d41_109 : decode (ab_C 41) 109 = .ok (.iload_n 1, 1) := by decide +kernel
theorem e41_109 {d : Nat} {l0 l2 : Option Value} {x : Int32} {s0 : Nat} {s1 : Int32} {s2 : Nat} {σ : ab_St} {Q : Option Value → ab_St → Prop} : Ev d 41 109 [l0, some (.int x), l2] [.ref s0, .int s1, .ref s2] σ Q = Ev d 41 110 [l0, some (.int x), l2] [.int x, .ref s0, .int s1, .ref s2] σ Q := ev_A1 d41_109 rfl
theorem d41_110 : decode (ab_C 41) 110 = .ok (.invokevirtual 145, 3) := by decide +kernel
theorem e41_110 {d : Nat} {l0 l1 l2 : Option Value} {s0 : Int32} {s1 : Nat} {s2 : Int32} {s3 : Nat} {σ : ab_St} {Q : Option Value → ab_St → Prop} : Ev (d + 1) 41 110 [l0, l1, l2] [.int s0, .ref s1, .int s2, .ref s3] σ Q = (ab_k s1 = 3 ∧ Ev d 42 0 [some (.ref s1), some (.int s0), none, none] [] σ (fun r σ2 => Ev (d + 1) 41 113 [l0, l1, l2] (r.toList ++ [.int s2, .ref s3]) σ2 Q)) := ev_KV (b := s1) (ls := [l0, l1, l2]) (st := [.int s0, .ref s1, .int s2, .ref s3]) (as := [.int s0]) (rest := [.int s2, .ref s3]) d41_110 rfl rfl rfl (Nat.le_of_ble_eq_true rfl) (Nat.le_of_ble_eq_true rfl) (Nat.le_of_ble_eq_true rfl) rfl rfl rfl rfl rfl rfl rfl
theorem d41_113 : decode (ab_C 41) 113 = .ok (.iand, 1) := by decide +kernel
theorem e41_113 {d : Nat} {l0 l1 l2 : Option Value} {s0 : Int32} {s1 : Int32} {s2 : Nat} {σ : ab_St} {Q : Option Value → ab_St → Prop} : Ev d 41 113 [l0, l1, l2] [.int s0, .int s1, .ref s2] σ Q = Ev d 41 114 [l0, l1, l2] [.int (s1 &&& s0), .ref s2] σ Q := ev_A2 d41_113 rfl rfl
theorem d41_114 : decode (ab_C 41) 114 = .ok (.invokevirtual 120, 3) := by decide +kernel
theorem e41_114 {d : Nat} {l0 l1 l2 : Option Value} {s0 : Int32} {s1 : Nat} {σ : ab_St} {Q : Option Value → ab_St → Prop} : Ev (d + 1) 41 114 [l0, l1, l2] [.int s0, .ref s1] σ Q = (ab_k s1 = 3 ∧ Ev d 39 0 [some (.ref s1), some (.int s0), none, none] [] σ (fun r σ2 => Ev (d + 1) 41 117 [l0, l1, l2] (r.toList ++ []) σ2 Q)) := ev_KV (b := s1) (ls := [l0, l1, l2]) (st := [.int s0, .ref s1]) (as := [.int s0]) (rest := []) d41_114 rfl rfl rfl (Nat.le_of_ble_eq_true rfl) (Nat.le_of_ble_eq_true rfl) (Nat.le_of_ble_eq_true rfl) rfl rfl rfl rfl rfl rfl rfl
theorem d41_117 : decode (ab_C 41) 117 = .ok (.ireturn, 1) := by decide +kernel
theorem e41_117 {d : Nat} {l0 l1 l2 : Option Value} {s0 : Int32} {σ : ab_St} {Q : Option Value → ab_St → Prop} : Ev d 41 117 [l0, l1, l2] [.int s0] σ Q = Q (some (.int s0)) σ := ev_E d41_117 rfl rfl rfl rfl rfl rfl rfl
theorem d41_118 : decode (ab_C 41) 118 = .ok (.bipush (-2), 2) := by decide +kernel
theorem e41_118 {d : Nat} {l0 l1 l2 : Option Value} {σ : ab_St} {Q : Option Value → ab_St → Prop} : Ev d 41 118 [l0, l1, l2] [] σ Q = Ev d 41 120 [l0, l1, l2] [.int (-2)] σ Q := ev_A1 d41_118 rfl
theorem d41_120 : decode (ab_C 41) 120 = .ok (.ireturn, 1) := by decide +kernel
theorem e41_120 {d : Nat} {l0 l1 l2 : Option Value} {s0 : Int32} {σ : ab_St} {Q : Option Value → ab_St → Prop} : Ev d 41 120 [l0, l1, l2] [.int s0] σ Q = Q (some (.int s0)) σ := ev_E d41_120 rfl rfl rfl rfl rfl rfl rfl
/-! SaidLeast$Told.sayingsOf(I)I -/
theorem d42_0 : decode (ab_C 42) 0 = .ok (.iconst 0, 1) := by decide +kernel
theorem e42_0 {d : Nat} {l0 l1 l2 l3 : Option Value} {σ : ab_St} {Q : Option Value → ab_St → Prop} : Ev d 42 0 [l0, l1, l2, l3] [] σ Q = Ev d 42 1 [l0, l1, l2, l3] [.int 0] σ Q := ev_A1 d42_0 rfl
theorem d42_1 : decode (ab_C 42) 1 = .ok (.istore_n 2, 1) := by decide +kernel
theorem e42_1 {d : Nat} {l0 l1 l2 l3 : Option Value} {s0 : Int32} {σ : ab_St} {Q : Option Value → ab_St → Prop} : Ev d 42 1 [l0, l1, l2, l3] [.int s0] σ Q = Ev d 42 2 [l0, l1, some (.int s0), l3] [] σ Q := ev_S d42_1 rfl rfl rfl rfl
theorem d42_2 : decode (ab_C 42) 2 = .ok (.iconst 0, 1) := by decide +kernel
theorem e42_2 {d : Nat} {l0 l1 l2 l3 : Option Value} {σ : ab_St} {Q : Option Value → ab_St → Prop} : Ev d 42 2 [l0, l1, l2, l3] [] σ Q = Ev d 42 3 [l0, l1, l2, l3] [.int 0] σ Q := ev_A1 d42_2 rfl
theorem d42_3 : decode (ab_C 42) 3 = .ok (.istore_n 3, 1) := by decide +kernel
theorem e42_3 {d : Nat} {l0 l1 l2 l3 : Option Value} {s0 : Int32} {σ : ab_St} {Q : Option Value → ab_St → Prop} : Ev d 42 3 [l0, l1, l2, l3] [.int s0] σ Q = Ev d 42 4 [l0, l1, l2, some (.int s0)] [] σ Q := ev_S d42_3 rfl rfl rfl rfl
theorem d42_4 : decode (ab_C 42) 4 = .ok (.iload_n 3, 1) := by decide +kernel
theorem e42_4 {d : Nat} {l0 l1 l2 : Option Value} {x : Int32} {σ : ab_St} {Q : Option Value → ab_St → Prop} : Ev d 42 4 [l0, l1, l2, some (.int x)] [] σ Q = Ev d 42 5 [l0, l1, l2, some (.int x)] [.int x] σ Q := ev_A1 d42_4 rfl
theorem d42_5 : decode (ab_C 42) 5 = .ok (.aload_n 0, 1) := by decide +kernel
theorem e42_5 {d : Nat} {l1 l2 l3 : Option Value} {x : Nat} {s0 : Int32} {σ : ab_St} {Q : Option Value → ab_St → Prop} : Ev d 42 5 [some (.ref x), l1, l2, l3] [.int s0] σ Q = Ev d 42 6 [some (.ref x), l1, l2, l3] [.ref x, .int s0] σ Q := ev_A1 d42_5 rfl
theorem d42_6 : decode (ab_C 42) 6 = .ok (.getfield 34, 3) := by decide +kernel
theorem e42_6 {d : Nat} {l0 l1 l2 l3 : Option Value} {s0 : Nat} {s1 : Int32} {σ : ab_St} {Q : Option Value → ab_St → Prop} : Ev d 42 6 [l0, l1, l2, l3] [.ref s0, .int s1] σ Q = (ab_k s0 = 3 ∧ Ev d 42 9 [l0, l1, l2, l3] [.int (σ.1 s0 5), .int s1] σ Q) := ev_Hc (c := ab_k s0 = 3) d42_6 rfl rfl rfl rfl rfl rfl rfl rfl
theorem d42_9 : decode (ab_C 42) 9 = .ok (.if_icmp .ge 25, 3) := by decide +kernel
theorem e42_9 {d : Nat} {l0 l1 l2 l3 : Option Value} {s0 : Int32} {s1 : Int32} {σ : ab_St} {Q : Option Value → ab_St → Prop} : Ev d 42 9 [l0, l1, l2, l3] [.int s0, .int s1] σ Q = if s0 ≤ s1 then Ev d 42 34 [l0, l1, l2, l3] [] σ Q else Ev d 42 12 [l0, l1, l2, l3] [] σ Q := ev_B (c := s0 ≤ s1) d42_9 rfl rfl rfl rfl rfl
theorem d42_12 : decode (ab_C 42) 12 = .ok (.aload_n 0, 1) := by decide +kernel
theorem e42_12 {d : Nat} {l1 l2 l3 : Option Value} {x : Nat} {σ : ab_St} {Q : Option Value → ab_St → Prop} : Ev d 42 12 [some (.ref x), l1, l2, l3] [] σ Q = Ev d 42 13 [some (.ref x), l1, l2, l3] [.ref x] σ Q := ev_A1 d42_12 rfl
theorem d42_13 : decode (ab_C 42) 13 = .ok (.getfield 9, 3) := by decide +kernel
theorem e42_13 {d : Nat} {l0 l1 l2 l3 : Option Value} {s0 : Nat} {σ : ab_St} {Q : Option Value → ab_St → Prop} : Ev d 42 13 [l0, l1, l2, l3] [.ref s0] σ Q = (ab_k s0 = 3 ∧ Ev d 42 16 [l0, l1, l2, l3] [.ref (ab_r s0 0)] σ Q) := ev_Hc (c := ab_k s0 = 3) d42_13 rfl rfl rfl rfl rfl rfl rfl rfl
theorem d42_16 : decode (ab_C 42) 16 = .ok (.iload_n 3, 1) := by decide +kernel
theorem e42_16 {d : Nat} {l0 l1 l2 : Option Value} {x : Int32} {s0 : Nat} {σ : ab_St} {Q : Option Value → ab_St → Prop} : Ev d 42 16 [l0, l1, l2, some (.int x)] [.ref s0] σ Q = Ev d 42 17 [l0, l1, l2, some (.int x)] [.int x, .ref s0] σ Q := ev_A1 d42_16 rfl
theorem d42_17 : decode (ab_C 42) 17 = .ok (.iaload, 1) := by decide +kernel
theorem e42_17 {d : Nat} {l0 l1 l2 l3 : Option Value} {s0 : Int32} {s1 : Nat} {σ : ab_St} {Q : Option Value → ab_St → Prop} : Ev d 42 17 [l0, l1, l2, l3] [.int s0, .ref s1] σ Q = ((ab_k s1 = 100 ∧ ab_in s0 (ab_n s1)) ∧ Ev d 42 18 [l0, l1, l2, l3] [.int (σ.1 s1 s0.toNatClampNeg)] σ Q) := ev_Hc (c := ab_k s1 = 100 ∧ ab_in s0 (ab_n s1)) d42_17 rfl rfl rfl rfl rfl rfl rfl rfl
theorem d42_18 : decode (ab_C 42) 18 = .ok (.iload_n 1, 1) := by decide +kernel
theorem e42_18 {d : Nat} {l0 l2 l3 : Option Value} {x : Int32} {s0 : Int32} {σ : ab_St} {Q : Option Value → ab_St → Prop} : Ev d 42 18 [l0, some (.int x), l2, l3] [.int s0] σ Q = Ev d 42 19 [l0, some (.int x), l2, l3] [.int x, .int s0] σ Q := ev_A1 d42_18 rfl
theorem d42_19 : decode (ab_C 42) 19 = .ok (.if_icmp .ne 9, 3) := by decide +kernel
theorem e42_19 {d : Nat} {l0 l1 l2 l3 : Option Value} {s0 : Int32} {s1 : Int32} {σ : ab_St} {Q : Option Value → ab_St → Prop} : Ev d 42 19 [l0, l1, l2, l3] [.int s0, .int s1] σ Q = if s1 = s0 then Ev d 42 22 [l0, l1, l2, l3] [] σ Q else Ev d 42 28 [l0, l1, l2, l3] [] σ Q := ev_B (c := s1 = s0) d42_19 rfl rfl rfl rfl rfl
theorem d42_22 : decode (ab_C 42) 22 = .ok (.iload_n 2, 1) := by decide +kernel
theorem e42_22 {d : Nat} {l0 l1 l3 : Option Value} {x : Int32} {σ : ab_St} {Q : Option Value → ab_St → Prop} : Ev d 42 22 [l0, l1, some (.int x), l3] [] σ Q = Ev d 42 23 [l0, l1, some (.int x), l3] [.int x] σ Q := ev_A1 d42_22 rfl
theorem d42_23 : decode (ab_C 42) 23 = .ok (.iconst 1, 1) := by decide +kernel
theorem e42_23 {d : Nat} {l0 l1 l2 l3 : Option Value} {s0 : Int32} {σ : ab_St} {Q : Option Value → ab_St → Prop} : Ev d 42 23 [l0, l1, l2, l3] [.int s0] σ Q = Ev d 42 24 [l0, l1, l2, l3] [.int 1, .int s0] σ Q := ev_A1 d42_23 rfl
theorem d42_24 : decode (ab_C 42) 24 = .ok (.iload_n 3, 1) := by decide +kernel
theorem e42_24 {d : Nat} {l0 l1 l2 : Option Value} {x : Int32} {s0 : Int32} {s1 : Int32} {σ : ab_St} {Q : Option Value → ab_St → Prop} : Ev d 42 24 [l0, l1, l2, some (.int x)] [.int s0, .int s1] σ Q = Ev d 42 25 [l0, l1, l2, some (.int x)] [.int x, .int s0, .int s1] σ Q := ev_A1 d42_24 rfl
theorem d42_25 : decode (ab_C 42) 25 = .ok (.ishl, 1) := by decide +kernel
theorem e42_25 {d : Nat} {l0 l1 l2 l3 : Option Value} {s0 : Int32} {s1 : Int32} {s2 : Int32} {σ : ab_St} {Q : Option Value → ab_St → Prop} : Ev d 42 25 [l0, l1, l2, l3] [.int s0, .int s1, .int s2] σ Q = Ev d 42 26 [l0, l1, l2, l3] [.int (s1 <<< (s0 &&& 31)), .int s2] σ Q := ev_A2 d42_25 rfl rfl
theorem d42_26 : decode (ab_C 42) 26 = .ok (.ior, 1) := by decide +kernel
theorem e42_26 {d : Nat} {l0 l1 l2 l3 : Option Value} {s0 : Int32} {s1 : Int32} {σ : ab_St} {Q : Option Value → ab_St → Prop} : Ev d 42 26 [l0, l1, l2, l3] [.int s0, .int s1] σ Q = Ev d 42 27 [l0, l1, l2, l3] [.int (s1 ||| s0)] σ Q := ev_A2 d42_26 rfl rfl
theorem d42_27 : decode (ab_C 42) 27 = .ok (.istore_n 2, 1) := by decide +kernel
theorem e42_27 {d : Nat} {l0 l1 l2 l3 : Option Value} {s0 : Int32} {σ : ab_St} {Q : Option Value → ab_St → Prop} : Ev d 42 27 [l0, l1, l2, l3] [.int s0] σ Q = Ev d 42 28 [l0, l1, some (.int s0), l3] [] σ Q := ev_S d42_27 rfl rfl rfl rfl
theorem d42_28 : decode (ab_C 42) 28 = .ok (.iinc 3 1, 3) := by decide +kernel
theorem e42_28 {d : Nat} {l0 l1 l2 : Option Value} {x : Int32} {σ : ab_St} {Q : Option Value → ab_St → Prop} : Ev d 42 28 [l0, l1, l2, some (.int x)] [] σ Q = Ev d 42 31 [l0, l1, l2, some (.int (x + 1))] [] σ Q := ev_S d42_28 rfl rfl rfl rfl
theorem d42_31 : decode (ab_C 42) 31 = .ok (.goto (-27), 3) := by decide +kernel
theorem e42_31 {d : Nat} {l0 l1 l2 l3 : Option Value} {σ : ab_St} {Q : Option Value → ab_St → Prop} : Ev d 42 31 [l0, l1, l2, l3] [] σ Q = Ev d 42 4 [l0, l1, l2, l3] [] σ Q := ev_J d42_31 rfl rfl rfl rfl rfl
theorem d42_34 : decode (ab_C 42) 34 = .ok (.iload_n 2, 1) := by decide +kernel
theorem e42_34 {d : Nat} {l0 l1 l3 : Option Value} {x : Int32} {σ : ab_St} {Q : Option Value → ab_St → Prop} : Ev d 42 34 [l0, l1, some (.int x), l3] [] σ Q = Ev d 42 35 [l0, l1, some (.int x), l3] [.int x] σ Q := ev_A1 d42_34 rfl
theorem d42_35 : decode (ab_C 42) 35 = .ok (.ireturn, 1) := by decide +kernel
theorem e42_35 {d : Nat} {l0 l1 l2 l3 : Option Value} {s0 : Int32} {σ : ab_St} {Q : Option Value → ab_St → Prop} : Ev d 42 35 [l0, l1, l2, l3] [.int s0] σ Q = Q (some (.int s0)) σ := ev_E d42_35 rfl rfl rfl rfl rfl rfl rfl
/-! SaidLeast.saying(II)I -/
theorem d43_0 : decode (ab_C 43) 0 = .ok (.aload_n 0, 1) := by decide +kernel
theorem e43_0 {d : Nat} {l1 l2 : Option Value} {x : Nat} {σ : ab_St} {Q : Option Value → ab_St → Prop} : Ev d 43 0 [some (.ref x), l1, l2] [] σ Q = Ev d 43 1 [some (.ref x), l1, l2] [.ref x] σ Q := ev_A1 d43_0 rfl
theorem d43_1 : decode (ab_C 43) 1 = .ok (.getfield 26, 3) := by decide +kernel
theorem e43_1 {d : Nat} {l0 l1 l2 : Option Value} {s0 : Nat} {σ : ab_St} {Q : Option Value → ab_St → Prop} : Ev d 43 1 [l0, l1, l2] [.ref s0] σ Q = (ab_k s0 = 0 ∧ Ev d 43 4 [l0, l1, l2] [.ref (ab_r s0 2)] σ Q) := ev_Hc (c := ab_k s0 = 0) d43_1 rfl rfl rfl rfl rfl rfl rfl rfl
theorem d43_4 : decode (ab_C 43) 4 = .ok (.iload_n 1, 1) := by decide +kernel
theorem e43_4 {d : Nat} {l0 l2 : Option Value} {x : Int32} {s0 : Nat} {σ : ab_St} {Q : Option Value → ab_St → Prop} : Ev d 43 4 [l0, some (.int x), l2] [.ref s0] σ Q = Ev d 43 5 [l0, some (.int x), l2] [.int x, .ref s0] σ Q := ev_A1 d43_4 rfl
theorem d43_5 : decode (ab_C 43) 5 = .ok (.invokevirtual 148, 3) := by decide +kernel
theorem e43_5 {d : Nat} {l0 l1 l2 : Option Value} {s0 : Int32} {s1 : Nat} {σ : ab_St} {Q : Option Value → ab_St → Prop} : Ev (d + 1) 43 5 [l0, l1, l2] [.int s0, .ref s1] σ Q = (ab_k s1 = 3 ∧ Ev d 31 0 [some (.ref s1), some (.int s0)] [] σ (fun r σ2 => Ev (d + 1) 43 8 [l0, l1, l2] (r.toList ++ []) σ2 Q)) := ev_KV (b := s1) (ls := [l0, l1, l2]) (st := [.int s0, .ref s1]) (as := [.int s0]) (rest := []) d43_5 rfl rfl rfl (Nat.le_of_ble_eq_true rfl) (Nat.le_of_ble_eq_true rfl) (Nat.le_of_ble_eq_true rfl) rfl rfl rfl rfl rfl rfl rfl
theorem d43_8 : decode (ab_C 43) 8 = .ok (.ifCond .ne 5, 3) := by decide +kernel
theorem e43_8 {d : Nat} {l0 l1 l2 : Option Value} {s0 : Int32} {σ : ab_St} {Q : Option Value → ab_St → Prop} : Ev d 43 8 [l0, l1, l2] [.int s0] σ Q = if s0 = 0 then Ev d 43 11 [l0, l1, l2] [] σ Q else Ev d 43 13 [l0, l1, l2] [] σ Q := ev_B (c := s0 = 0) d43_8 rfl rfl rfl rfl rfl
theorem d43_11 : decode (ab_C 43) 11 = .ok (.iconst (-1), 1) := by decide +kernel
theorem e43_11 {d : Nat} {l0 l1 l2 : Option Value} {σ : ab_St} {Q : Option Value → ab_St → Prop} : Ev d 43 11 [l0, l1, l2] [] σ Q = Ev d 43 12 [l0, l1, l2] [.int (-1)] σ Q := ev_A1 d43_11 rfl
theorem d43_12 : decode (ab_C 43) 12 = .ok (.ireturn, 1) := by decide +kernel
theorem e43_12 {d : Nat} {l0 l1 l2 : Option Value} {s0 : Int32} {σ : ab_St} {Q : Option Value → ab_St → Prop} : Ev d 43 12 [l0, l1, l2] [.int s0] σ Q = Q (some (.int s0)) σ := ev_E d43_12 rfl rfl rfl rfl rfl rfl rfl
theorem d43_13 : decode (ab_C 43) 13 = .ok (.iload_n 2, 1) := by decide +kernel
theorem e43_13 {d : Nat} {l0 l1 : Option Value} {x : Int32} {σ : ab_St} {Q : Option Value → ab_St → Prop} : Ev d 43 13 [l0, l1, some (.int x)] [] σ Q = Ev d 43 14 [l0, l1, some (.int x)] [.int x] σ Q := ev_A1 d43_13 rfl
theorem d43_14 : decode (ab_C 43) 14 = .ok (.tableswitch 94 0 4 #[34, 44, 54, 64, 74], 34) := by decide +kernel
theorem e43_14 {d : Nat} {l0 l1 l2 : Option Value} {s0 : Int32} {σ : ab_St} {Q : Option Value → ab_St → Prop} : Ev d 43 14 [l0, l1, l2] [.int s0] σ Q = if s0 = 0 then Ev d 43 48 [l0, l1, l2] [] σ Q else if s0 = 1 then Ev d 43 58 [l0, l1, l2] [] σ Q else if s0 = 2 then Ev d 43 68 [l0, l1, l2] [] σ Q else if s0 = 3 then Ev d 43 78 [l0, l1, l2] [] σ Q else if s0 = 4 then Ev d 43 88 [l0, l1, l2] [] σ Q else Ev d 43 108 [l0, l1, l2] [] σ Q := ev_T (ts := [48, 58, 68, 78, 88]) (df := 108) d43_14 (by decide +kernel)
theorem d43_48 : decode (ab_C 43) 48 = .ok (.aload_n 0, 1) := by decide +kernel
theorem e43_48 {d : Nat} {l1 l2 : Option Value} {x : Nat} {σ : ab_St} {Q : Option Value → ab_St → Prop} : Ev d 43 48 [some (.ref x), l1, l2] [] σ Q = Ev d 43 49 [some (.ref x), l1, l2] [.ref x] σ Q := ev_A1 d43_48 rfl
theorem d43_49 : decode (ab_C 43) 49 = .ok (.getfield 26, 3) := by decide +kernel
theorem e43_49 {d : Nat} {l0 l1 l2 : Option Value} {s0 : Nat} {σ : ab_St} {Q : Option Value → ab_St → Prop} : Ev d 43 49 [l0, l1, l2] [.ref s0] σ Q = (ab_k s0 = 0 ∧ Ev d 43 52 [l0, l1, l2] [.ref (ab_r s0 2)] σ Q) := ev_Hc (c := ab_k s0 = 0) d43_49 rfl rfl rfl rfl rfl rfl rfl rfl
theorem d43_52 : decode (ab_C 43) 52 = .ok (.getfield 151, 3) := by decide +kernel
theorem e43_52 {d : Nat} {l0 l1 l2 : Option Value} {s0 : Nat} {σ : ab_St} {Q : Option Value → ab_St → Prop} : Ev d 43 52 [l0, l1, l2] [.ref s0] σ Q = (ab_k s0 = 3 ∧ Ev d 43 55 [l0, l1, l2] [.ref (ab_r s0 0)] σ Q) := ev_Hc (c := ab_k s0 = 3) d43_52 rfl rfl rfl rfl rfl rfl rfl rfl
theorem d43_55 : decode (ab_C 43) 55 = .ok (.iload_n 1, 1) := by decide +kernel
theorem e43_55 {d : Nat} {l0 l2 : Option Value} {x : Int32} {s0 : Nat} {σ : ab_St} {Q : Option Value → ab_St → Prop} : Ev d 43 55 [l0, some (.int x), l2] [.ref s0] σ Q = Ev d 43 56 [l0, some (.int x), l2] [.int x, .ref s0] σ Q := ev_A1 d43_55 rfl
theorem d43_56 : decode (ab_C 43) 56 = .ok (.iaload, 1) := by decide +kernel
theorem e43_56 {d : Nat} {l0 l1 l2 : Option Value} {s0 : Int32} {s1 : Nat} {σ : ab_St} {Q : Option Value → ab_St → Prop} : Ev d 43 56 [l0, l1, l2] [.int s0, .ref s1] σ Q = ((ab_k s1 = 100 ∧ ab_in s0 (ab_n s1)) ∧ Ev d 43 57 [l0, l1, l2] [.int (σ.1 s1 s0.toNatClampNeg)] σ Q) := ev_Hc (c := ab_k s1 = 100 ∧ ab_in s0 (ab_n s1)) d43_56 rfl rfl rfl rfl rfl rfl rfl rfl
theorem d43_57 : decode (ab_C 43) 57 = .ok (.ireturn, 1) := by decide +kernel
theorem e43_57 {d : Nat} {l0 l1 l2 : Option Value} {s0 : Int32} {σ : ab_St} {Q : Option Value → ab_St → Prop} : Ev d 43 57 [l0, l1, l2] [.int s0] σ Q = Q (some (.int s0)) σ := ev_E d43_57 rfl rfl rfl rfl rfl rfl rfl
theorem d43_58 : decode (ab_C 43) 58 = .ok (.aload_n 0, 1) := by decide +kernel
theorem e43_58 {d : Nat} {l1 l2 : Option Value} {x : Nat} {σ : ab_St} {Q : Option Value → ab_St → Prop} : Ev d 43 58 [some (.ref x), l1, l2] [] σ Q = Ev d 43 59 [some (.ref x), l1, l2] [.ref x] σ Q := ev_A1 d43_58 rfl
theorem d43_59 : decode (ab_C 43) 59 = .ok (.getfield 26, 3) := by decide +kernel
theorem e43_59 {d : Nat} {l0 l1 l2 : Option Value} {s0 : Nat} {σ : ab_St} {Q : Option Value → ab_St → Prop} : Ev d 43 59 [l0, l1, l2] [.ref s0] σ Q = (ab_k s0 = 0 ∧ Ev d 43 62 [l0, l1, l2] [.ref (ab_r s0 2)] σ Q) := ev_Hc (c := ab_k s0 = 0) d43_59 rfl rfl rfl rfl rfl rfl rfl rfl
theorem d43_62 : decode (ab_C 43) 62 = .ok (.getfield 154, 3) := by decide +kernel
theorem e43_62 {d : Nat} {l0 l1 l2 : Option Value} {s0 : Nat} {σ : ab_St} {Q : Option Value → ab_St → Prop} : Ev d 43 62 [l0, l1, l2] [.ref s0] σ Q = (ab_k s0 = 3 ∧ Ev d 43 65 [l0, l1, l2] [.ref (ab_r s0 1)] σ Q) := ev_Hc (c := ab_k s0 = 3) d43_62 rfl rfl rfl rfl rfl rfl rfl rfl
theorem d43_65 : decode (ab_C 43) 65 = .ok (.iload_n 1, 1) := by decide +kernel
theorem e43_65 {d : Nat} {l0 l2 : Option Value} {x : Int32} {s0 : Nat} {σ : ab_St} {Q : Option Value → ab_St → Prop} : Ev d 43 65 [l0, some (.int x), l2] [.ref s0] σ Q = Ev d 43 66 [l0, some (.int x), l2] [.int x, .ref s0] σ Q := ev_A1 d43_65 rfl
theorem d43_66 : decode (ab_C 43) 66 = .ok (.iaload, 1) := by decide +kernel
theorem e43_66 {d : Nat} {l0 l1 l2 : Option Value} {s0 : Int32} {s1 : Nat} {σ : ab_St} {Q : Option Value → ab_St → Prop} : Ev d 43 66 [l0, l1, l2] [.int s0, .ref s1] σ Q = ((ab_k s1 = 100 ∧ ab_in s0 (ab_n s1)) ∧ Ev d 43 67 [l0, l1, l2] [.int (σ.1 s1 s0.toNatClampNeg)] σ Q) := ev_Hc (c := ab_k s1 = 100 ∧ ab_in s0 (ab_n s1)) d43_66 rfl rfl rfl rfl rfl rfl rfl rfl
theorem d43_67 : decode (ab_C 43) 67 = .ok (.ireturn, 1) := by decide +kernel
theorem e43_67 {d : Nat} {l0 l1 l2 : Option Value} {s0 : Int32} {σ : ab_St} {Q : Option Value → ab_St → Prop} : Ev d 43 67 [l0, l1, l2] [.int s0] σ Q = Q (some (.int s0)) σ := ev_E d43_67 rfl rfl rfl rfl rfl rfl rfl
theorem d43_68 : decode (ab_C 43) 68 = .ok (.aload_n 0, 1) := by decide +kernel
theorem e43_68 {d : Nat} {l1 l2 : Option Value} {x : Nat} {σ : ab_St} {Q : Option Value → ab_St → Prop} : Ev d 43 68 [some (.ref x), l1, l2] [] σ Q = Ev d 43 69 [some (.ref x), l1, l2] [.ref x] σ Q := ev_A1 d43_68 rfl
theorem d43_69 : decode (ab_C 43) 69 = .ok (.getfield 26, 3) := by decide +kernel
theorem e43_69 {d : Nat} {l0 l1 l2 : Option Value} {s0 : Nat} {σ : ab_St} {Q : Option Value → ab_St → Prop} : Ev d 43 69 [l0, l1, l2] [.ref s0] σ Q = (ab_k s0 = 0 ∧ Ev d 43 72 [l0, l1, l2] [.ref (ab_r s0 2)] σ Q) := ev_Hc (c := ab_k s0 = 0) d43_69 rfl rfl rfl rfl rfl rfl rfl rfl
theorem d43_72 : decode (ab_C 43) 72 = .ok (.getfield 155, 3) := by decide +kernel
theorem e43_72 {d : Nat} {l0 l1 l2 : Option Value} {s0 : Nat} {σ : ab_St} {Q : Option Value → ab_St → Prop} : Ev d 43 72 [l0, l1, l2] [.ref s0] σ Q = (ab_k s0 = 3 ∧ Ev d 43 75 [l0, l1, l2] [.ref (ab_r s0 2)] σ Q) := ev_Hc (c := ab_k s0 = 3) d43_72 rfl rfl rfl rfl rfl rfl rfl rfl
theorem d43_75 : decode (ab_C 43) 75 = .ok (.iload_n 1, 1) := by decide +kernel
theorem e43_75 {d : Nat} {l0 l2 : Option Value} {x : Int32} {s0 : Nat} {σ : ab_St} {Q : Option Value → ab_St → Prop} : Ev d 43 75 [l0, some (.int x), l2] [.ref s0] σ Q = Ev d 43 76 [l0, some (.int x), l2] [.int x, .ref s0] σ Q := ev_A1 d43_75 rfl
theorem d43_76 : decode (ab_C 43) 76 = .ok (.iaload, 1) := by decide +kernel
theorem e43_76 {d : Nat} {l0 l1 l2 : Option Value} {s0 : Int32} {s1 : Nat} {σ : ab_St} {Q : Option Value → ab_St → Prop} : Ev d 43 76 [l0, l1, l2] [.int s0, .ref s1] σ Q = ((ab_k s1 = 100 ∧ ab_in s0 (ab_n s1)) ∧ Ev d 43 77 [l0, l1, l2] [.int (σ.1 s1 s0.toNatClampNeg)] σ Q) := ev_Hc (c := ab_k s1 = 100 ∧ ab_in s0 (ab_n s1)) d43_76 rfl rfl rfl rfl rfl rfl rfl rfl
theorem d43_77 : decode (ab_C 43) 77 = .ok (.ireturn, 1) := by decide +kernel
theorem e43_77 {d : Nat} {l0 l1 l2 : Option Value} {s0 : Int32} {σ : ab_St} {Q : Option Value → ab_St → Prop} : Ev d 43 77 [l0, l1, l2] [.int s0] σ Q = Q (some (.int s0)) σ := ev_E d43_77 rfl rfl rfl rfl rfl rfl rfl
theorem d43_78 : decode (ab_C 43) 78 = .ok (.aload_n 0, 1) := by decide +kernel
theorem e43_78 {d : Nat} {l1 l2 : Option Value} {x : Nat} {σ : ab_St} {Q : Option Value → ab_St → Prop} : Ev d 43 78 [some (.ref x), l1, l2] [] σ Q = Ev d 43 79 [some (.ref x), l1, l2] [.ref x] σ Q := ev_A1 d43_78 rfl
theorem d43_79 : decode (ab_C 43) 79 = .ok (.getfield 26, 3) := by decide +kernel
theorem e43_79 {d : Nat} {l0 l1 l2 : Option Value} {s0 : Nat} {σ : ab_St} {Q : Option Value → ab_St → Prop} : Ev d 43 79 [l0, l1, l2] [.ref s0] σ Q = (ab_k s0 = 0 ∧ Ev d 43 82 [l0, l1, l2] [.ref (ab_r s0 2)] σ Q) := ev_Hc (c := ab_k s0 = 0) d43_79 rfl rfl rfl rfl rfl rfl rfl rfl
theorem d43_82 : decode (ab_C 43) 82 = .ok (.getfield 158, 3) := by decide +kernel
theorem e43_82 {d : Nat} {l0 l1 l2 : Option Value} {s0 : Nat} {σ : ab_St} {Q : Option Value → ab_St → Prop} : Ev d 43 82 [l0, l1, l2] [.ref s0] σ Q = (ab_k s0 = 3 ∧ Ev d 43 85 [l0, l1, l2] [.ref (ab_r s0 3)] σ Q) := ev_Hc (c := ab_k s0 = 3) d43_82 rfl rfl rfl rfl rfl rfl rfl rfl
theorem d43_85 : decode (ab_C 43) 85 = .ok (.iload_n 1, 1) := by decide +kernel
theorem e43_85 {d : Nat} {l0 l2 : Option Value} {x : Int32} {s0 : Nat} {σ : ab_St} {Q : Option Value → ab_St → Prop} : Ev d 43 85 [l0, some (.int x), l2] [.ref s0] σ Q = Ev d 43 86 [l0, some (.int x), l2] [.int x, .ref s0] σ Q := ev_A1 d43_85 rfl
theorem d43_86 : decode (ab_C 43) 86 = .ok (.iaload, 1) := by decide +kernel
theorem e43_86 {d : Nat} {l0 l1 l2 : Option Value} {s0 : Int32} {s1 : Nat} {σ : ab_St} {Q : Option Value → ab_St → Prop} : Ev d 43 86 [l0, l1, l2] [.int s0, .ref s1] σ Q = ((ab_k s1 = 100 ∧ ab_in s0 (ab_n s1)) ∧ Ev d 43 87 [l0, l1, l2] [.int (σ.1 s1 s0.toNatClampNeg)] σ Q) := ev_Hc (c := ab_k s1 = 100 ∧ ab_in s0 (ab_n s1)) d43_86 rfl rfl rfl rfl rfl rfl rfl rfl
theorem d43_87 : decode (ab_C 43) 87 = .ok (.ireturn, 1) := by decide +kernel
theorem e43_87 {d : Nat} {l0 l1 l2 : Option Value} {s0 : Int32} {σ : ab_St} {Q : Option Value → ab_St → Prop} : Ev d 43 87 [l0, l1, l2] [.int s0] σ Q = Q (some (.int s0)) σ := ev_E d43_87 rfl rfl rfl rfl rfl rfl rfl
theorem d43_88 : decode (ab_C 43) 88 = .ok (.aload_n 0, 1) := by decide +kernel
theorem e43_88 {d : Nat} {l1 l2 : Option Value} {x : Nat} {σ : ab_St} {Q : Option Value → ab_St → Prop} : Ev d 43 88 [some (.ref x), l1, l2] [] σ Q = Ev d 43 89 [some (.ref x), l1, l2] [.ref x] σ Q := ev_A1 d43_88 rfl
theorem d43_89 : decode (ab_C 43) 89 = .ok (.getfield 33, 3) := by decide +kernel
theorem e43_89 {d : Nat} {l0 l1 l2 : Option Value} {s0 : Nat} {σ : ab_St} {Q : Option Value → ab_St → Prop} : Ev d 43 89 [l0, l1, l2] [.ref s0] σ Q = (ab_k s0 = 0 ∧ Ev d 43 92 [l0, l1, l2] [.ref (ab_r s0 3)] σ Q) := ev_Hc (c := ab_k s0 = 0) d43_89 rfl rfl rfl rfl rfl rfl rfl rfl
theorem d43_92 : decode (ab_C 43) 92 = .ok (.getfield 117, 3) := by decide +kernel
theorem e43_92 {d : Nat} {l0 l1 l2 : Option Value} {s0 : Nat} {σ : ab_St} {Q : Option Value → ab_St → Prop} : Ev d 43 92 [l0, l1, l2] [.ref s0] σ Q = (ab_k s0 = 4 ∧ Ev d 43 95 [l0, l1, l2] [.int (σ.1 s0 2)] σ Q) := ev_Hc (c := ab_k s0 = 4) d43_92 rfl rfl rfl rfl rfl rfl rfl rfl
theorem d43_95 : decode (ab_C 43) 95 = .ok (.iload_n 1, 1) := by decide +kernel
theorem e43_95 {d : Nat} {l0 l2 : Option Value} {x : Int32} {s0 : Int32} {σ : ab_St} {Q : Option Value → ab_St → Prop} : Ev d 43 95 [l0, some (.int x), l2] [.int s0] σ Q = Ev d 43 96 [l0, some (.int x), l2] [.int x, .int s0] σ Q := ev_A1 d43_95 rfl
theorem d43_96 : decode (ab_C 43) 96 = .ok (.invokestatic 141, 3) := by decide +kernel
theorem e43_96 {d : Nat} {l0 l1 l2 : Option Value} {s0 : Int32} {s1 : Int32} {σ : ab_St} {Q : Option Value → ab_St → Prop} : Ev (d + 1) 43 96 [l0, l1, l2] [.int s0, .int s1] σ Q = Ev d 32 0 [some (.int s1), some (.int s0)] [] σ (fun r σ2 => Ev (d + 1) 43 99 [l0, l1, l2] (r.toList ++ []) σ2 Q) := ev_K0 (y := 32) (ls := [l0, l1, l2]) (st := [.int s0, .int s1]) (as := [.int s1, .int s0]) (rest := []) d43_96 rfl rfl rfl rfl rfl rfl rfl rfl
theorem d43_99 : decode (ab_C 43) 99 = .ok (.ifCond .eq 7, 3) := by decide +kernel
theorem e43_99 {d : Nat} {l0 l1 l2 : Option Value} {s0 : Int32} {σ : ab_St} {Q : Option Value → ab_St → Prop} : Ev d 43 99 [l0, l1, l2] [.int s0] σ Q = if s0 = 0 then Ev d 43 106 [l0, l1, l2] [] σ Q else Ev d 43 102 [l0, l1, l2] [] σ Q := ev_B (c := s0 = 0) d43_99 rfl rfl rfl rfl rfl
theorem d43_102 : decode (ab_C 43) 102 = .ok (.iconst 1, 1) := by decide +kernel
theorem e43_102 {d : Nat} {l0 l1 l2 : Option Value} {σ : ab_St} {Q : Option Value → ab_St → Prop} : Ev d 43 102 [l0, l1, l2] [] σ Q = Ev d 43 103 [l0, l1, l2] [.int 1] σ Q := ev_A1 d43_102 rfl
theorem d43_103 : decode (ab_C 43) 103 = .ok (.goto 4, 3) := by decide +kernel
theorem e43_103 {d : Nat} {l0 l1 l2 : Option Value} {s0 : Int32} {σ : ab_St} {Q : Option Value → ab_St → Prop} : Ev d 43 103 [l0, l1, l2] [.int s0] σ Q = Ev d 43 107 [l0, l1, l2] [.int s0] σ Q := ev_J d43_103 rfl rfl rfl rfl rfl
theorem d43_106 : decode (ab_C 43) 106 = .ok (.iconst 0, 1) := by decide +kernel
theorem e43_106 {d : Nat} {l0 l1 l2 : Option Value} {σ : ab_St} {Q : Option Value → ab_St → Prop} : Ev d 43 106 [l0, l1, l2] [] σ Q = Ev d 43 107 [l0, l1, l2] [.int 0] σ Q := ev_A1 d43_106 rfl
theorem d43_107 : decode (ab_C 43) 107 = .ok (.ireturn, 1) := by decide +kernel
theorem e43_107 {d : Nat} {l0 l1 l2 : Option Value} {s0 : Int32} {σ : ab_St} {Q : Option Value → ab_St → Prop} : Ev d 43 107 [l0, l1, l2] [.int s0] σ Q = Q (some (.int s0)) σ := ev_E d43_107 rfl rfl rfl rfl rfl rfl rfl
theorem d43_108 : decode (ab_C 43) 108 = .ok (.bipush (-2), 2) := by decide +kernel
theorem e43_108 {d : Nat} {l0 l1 l2 : Option Value} {σ : ab_St} {Q : Option Value → ab_St → Prop} : Ev d 43 108 [l0, l1, l2] [] σ Q = Ev d 43 110 [l0, l1, l2] [.int (-2)] σ Q := ev_A1 d43_108 rfl
theorem d43_110 : decode (ab_C 43) 110 = .ok (.ireturn, 1) := by decide +kernel
theorem e43_110 {d : Nat} {l0 l1 l2 : Option Value} {s0 : Int32} {σ : ab_St} {Q : Option Value → ab_St → Prop} : Ev d 43 110 [l0, l1, l2] [.int s0] σ Q = Q (some (.int s0)) σ := ev_E d43_110 rfl rfl rfl rfl rfl rfl rfl
/-! SaidLeast.law(I)I -/
theorem d44_0 : decode (ab_C 44) 0 = .ok (.iload_n 1, 1) := by decide +kernel
theorem e44_0 {d : Nat} {l0 l2 : Option Value} {x : Int32} {σ : ab_St} {Q : Option Value → ab_St → Prop} : Ev d 44 0 [l0, some (.int x), l2] [] σ Q = Ev d 44 1 [l0, some (.int x), l2] [.int x] σ Q := ev_A1 d44_0 rfl
theorem d44_1 : decode (ab_C 44) 1 = .ok (.ifCond .lt 8, 3) := by decide +kernel
theorem e44_1 {d : Nat} {l0 l1 l2 : Option Value} {s0 : Int32} {σ : ab_St} {Q : Option Value → ab_St → Prop} : Ev d 44 1 [l0, l1, l2] [.int s0] σ Q = if s0 < 0 then Ev d 44 9 [l0, l1, l2] [] σ Q else Ev d 44 4 [l0, l1, l2] [] σ Q := ev_B (c := s0 < 0) d44_1 rfl rfl rfl rfl rfl
theorem d44_4 : decode (ab_C 44) 4 = .ok (.iload_n 1, 1) := by decide +kernel
theorem e44_4 {d : Nat} {l0 l2 : Option Value} {x : Int32} {σ : ab_St} {Q : Option Value → ab_St → Prop} : Ev d 44 4 [l0, some (.int x), l2] [] σ Q = Ev d 44 5 [l0, some (.int x), l2] [.int x] σ Q := ev_A1 d44_4 rfl
theorem d44_5 : decode (ab_C 44) 5 = .ok (.iconst 3, 1) := by decide +kernel
theorem e44_5 {d : Nat} {l0 l1 l2 : Option Value} {s0 : Int32} {σ : ab_St} {Q : Option Value → ab_St → Prop} : Ev d 44 5 [l0, l1, l2] [.int s0] σ Q = Ev d 44 6 [l0, l1, l2] [.int 3, .int s0] σ Q := ev_A1 d44_5 rfl
theorem d44_6 : decode (ab_C 44) 6 = .ok (.if_icmp .lt 6, 3) := by decide +kernel
theorem e44_6 {d : Nat} {l0 l1 l2 : Option Value} {s0 : Int32} {s1 : Int32} {σ : ab_St} {Q : Option Value → ab_St → Prop} : Ev d 44 6 [l0, l1, l2] [.int s0, .int s1] σ Q = if s1 < s0 then Ev d 44 12 [l0, l1, l2] [] σ Q else Ev d 44 9 [l0, l1, l2] [] σ Q := ev_B (c := s1 < s0) d44_6 rfl rfl rfl rfl rfl
theorem d44_9 : decode (ab_C 44) 9 = .ok (.bipush (-2), 2) := by decide +kernel
theorem e44_9 {d : Nat} {l0 l1 l2 : Option Value} {σ : ab_St} {Q : Option Value → ab_St → Prop} : Ev d 44 9 [l0, l1, l2] [] σ Q = Ev d 44 11 [l0, l1, l2] [.int (-2)] σ Q := ev_A1 d44_9 rfl
theorem d44_11 : decode (ab_C 44) 11 = .ok (.ireturn, 1) := by decide +kernel
theorem e44_11 {d : Nat} {l0 l1 l2 : Option Value} {s0 : Int32} {σ : ab_St} {Q : Option Value → ab_St → Prop} : Ev d 44 11 [l0, l1, l2] [.int s0] σ Q = Q (some (.int s0)) σ := ev_E d44_11 rfl rfl rfl rfl rfl rfl rfl
theorem d44_12 : decode (ab_C 44) 12 = .ok (.aload_n 0, 1) := by decide +kernel
theorem e44_12 {d : Nat} {l1 l2 : Option Value} {x : Nat} {σ : ab_St} {Q : Option Value → ab_St → Prop} : Ev d 44 12 [some (.ref x), l1, l2] [] σ Q = Ev d 44 13 [some (.ref x), l1, l2] [.ref x] σ Q := ev_A1 d44_12 rfl
theorem d44_13 : decode (ab_C 44) 13 = .ok (.getfield 33, 3) := by decide +kernel
theorem e44_13 {d : Nat} {l0 l1 l2 : Option Value} {s0 : Nat} {σ : ab_St} {Q : Option Value → ab_St → Prop} : Ev d 44 13 [l0, l1, l2] [.ref s0] σ Q = (ab_k s0 = 0 ∧ Ev d 44 16 [l0, l1, l2] [.ref (ab_r s0 3)] σ Q) := ev_Hc (c := ab_k s0 = 0) d44_13 rfl rfl rfl rfl rfl rfl rfl rfl
theorem d44_16 : decode (ab_C 44) 16 = .ok (.getfield 107, 3) := by decide +kernel
theorem e44_16 {d : Nat} {l0 l1 l2 : Option Value} {s0 : Nat} {σ : ab_St} {Q : Option Value → ab_St → Prop} : Ev d 44 16 [l0, l1, l2] [.ref s0] σ Q = (ab_k s0 = 4 ∧ Ev d 44 19 [l0, l1, l2] [.int (σ.1 s0 4)] σ Q) := ev_Hc (c := ab_k s0 = 4) d44_16 rfl rfl rfl rfl rfl rfl rfl rfl
theorem d44_19 : decode (ab_C 44) 19 = .ok (.istore_n 2, 1) := by decide +kernel
theorem e44_19 {d : Nat} {l0 l1 l2 : Option Value} {s0 : Int32} {σ : ab_St} {Q : Option Value → ab_St → Prop} : Ev d 44 19 [l0, l1, l2] [.int s0] σ Q = Ev d 44 20 [l0, l1, some (.int s0)] [] σ Q := ev_S d44_19 rfl rfl rfl rfl
theorem d44_20 : decode (ab_C 44) 20 = .ok (.aload_n 0, 1) := by decide +kernel
theorem e44_20 {d : Nat} {l1 l2 : Option Value} {x : Nat} {σ : ab_St} {Q : Option Value → ab_St → Prop} : Ev d 44 20 [some (.ref x), l1, l2] [] σ Q = Ev d 44 21 [some (.ref x), l1, l2] [.ref x] σ Q := ev_A1 d44_20 rfl
theorem d44_21 : decode (ab_C 44) 21 = .ok (.getfield 33, 3) := by decide +kernel
theorem e44_21 {d : Nat} {l0 l1 l2 : Option Value} {s0 : Nat} {σ : ab_St} {Q : Option Value → ab_St → Prop} : Ev d 44 21 [l0, l1, l2] [.ref s0] σ Q = (ab_k s0 = 0 ∧ Ev d 44 24 [l0, l1, l2] [.ref (ab_r s0 3)] σ Q) := ev_Hc (c := ab_k s0 = 0) d44_21 rfl rfl rfl rfl rfl rfl rfl rfl
theorem d44_24 : decode (ab_C 44) 24 = .ok (.iload_n 1, 1) := by decide +kernel
theorem e44_24 {d : Nat} {l0 l2 : Option Value} {x : Int32} {s0 : Nat} {σ : ab_St} {Q : Option Value → ab_St → Prop} : Ev d 44 24 [l0, some (.int x), l2] [.ref s0] σ Q = Ev d 44 25 [l0, some (.int x), l2] [.int x, .ref s0] σ Q := ev_A1 d44_24 rfl
theorem d44_25 : decode (ab_C 44) 25 = .ok (.putfield 107, 3) := by decide +kernel
theorem e44_25 {d : Nat} {l0 l1 l2 : Option Value} {s0 : Int32} {s1 : Nat} {σ : ab_St} {Q : Option Value → ab_St → Prop} : Ev d 44 25 [l0, l1, l2] [.int s0, .ref s1] σ Q = (ab_k s1 = 4 ∧ Ev d 44 28 [l0, l1, l2] [] (ab_wI σ s1 (upd (σ.1 s1) 4 s0)) Q) := ev_Hc (c := ab_k s1 = 4) d44_25 rfl rfl rfl rfl rfl rfl rfl rfl
theorem d44_28 : decode (ab_C 44) 28 = .ok (.iload_n 2, 1) := by decide +kernel
theorem e44_28 {d : Nat} {l0 l1 : Option Value} {x : Int32} {σ : ab_St} {Q : Option Value → ab_St → Prop} : Ev d 44 28 [l0, l1, some (.int x)] [] σ Q = Ev d 44 29 [l0, l1, some (.int x)] [.int x] σ Q := ev_A1 d44_28 rfl
theorem d44_29 : decode (ab_C 44) 29 = .ok (.ireturn, 1) := by decide +kernel
theorem e44_29 {d : Nat} {l0 l1 l2 : Option Value} {s0 : Int32} {σ : ab_St} {Q : Option Value → ab_St → Prop} : Ev d 44 29 [l0, l1, l2] [.int s0] σ Q = Q (some (.int s0)) σ := ev_E d44_29 rfl rfl rfl rfl rfl rfl rfl
/-! SaidLeast.may(I)I -/
theorem d45_0 : decode (ab_C 45) 0 = .ok (.aload_n 0, 1) := by decide +kernel
theorem e45_0 {d : Nat} {l1 : Option Value} {x : Nat} {σ : ab_St} {Q : Option Value → ab_St → Prop} : Ev d 45 0 [some (.ref x), l1] [] σ Q = Ev d 45 1 [some (.ref x), l1] [.ref x] σ Q := ev_A1 d45_0 rfl
theorem d45_1 : decode (ab_C 45) 1 = .ok (.getfield 26, 3) := by decide +kernel
theorem e45_1 {d : Nat} {l0 l1 : Option Value} {s0 : Nat} {σ : ab_St} {Q : Option Value → ab_St → Prop} : Ev d 45 1 [l0, l1] [.ref s0] σ Q = (ab_k s0 = 0 ∧ Ev d 45 4 [l0, l1] [.ref (ab_r s0 2)] σ Q) := ev_Hc (c := ab_k s0 = 0) d45_1 rfl rfl rfl rfl rfl rfl rfl rfl
theorem d45_4 : decode (ab_C 45) 4 = .ok (.iload_n 1, 1) := by decide +kernel
theorem e45_4 {d : Nat} {l0 : Option Value} {x : Int32} {s0 : Nat} {σ : ab_St} {Q : Option Value → ab_St → Prop} : Ev d 45 4 [l0, some (.int x)] [.ref s0] σ Q = Ev d 45 5 [l0, some (.int x)] [.int x, .ref s0] σ Q := ev_A1 d45_4 rfl
theorem d45_5 : decode (ab_C 45) 5 = .ok (.invokevirtual 148, 3) := by decide +kernel
theorem e45_5 {d : Nat} {l0 l1 : Option Value} {s0 : Int32} {s1 : Nat} {σ : ab_St} {Q : Option Value → ab_St → Prop} : Ev (d + 1) 45 5 [l0, l1] [.int s0, .ref s1] σ Q = (ab_k s1 = 3 ∧ Ev d 31 0 [some (.ref s1), some (.int s0)] [] σ (fun r σ2 => Ev (d + 1) 45 8 [l0, l1] (r.toList ++ []) σ2 Q)) := ev_KV (b := s1) (ls := [l0, l1]) (st := [.int s0, .ref s1]) (as := [.int s0]) (rest := []) d45_5 rfl rfl rfl (Nat.le_of_ble_eq_true rfl) (Nat.le_of_ble_eq_true rfl) (Nat.le_of_ble_eq_true rfl) rfl rfl rfl rfl rfl rfl rfl
theorem d45_8 : decode (ab_C 45) 8 = .ok (.ifCond .ne 5, 3) := by decide +kernel
theorem e45_8 {d : Nat} {l0 l1 : Option Value} {s0 : Int32} {σ : ab_St} {Q : Option Value → ab_St → Prop} : Ev d 45 8 [l0, l1] [.int s0] σ Q = if s0 = 0 then Ev d 45 11 [l0, l1] [] σ Q else Ev d 45 13 [l0, l1] [] σ Q := ev_B (c := s0 = 0) d45_8 rfl rfl rfl rfl rfl
theorem d45_11 : decode (ab_C 45) 11 = .ok (.iconst (-1), 1) := by decide +kernel
theorem e45_11 {d : Nat} {l0 l1 : Option Value} {σ : ab_St} {Q : Option Value → ab_St → Prop} : Ev d 45 11 [l0, l1] [] σ Q = Ev d 45 12 [l0, l1] [.int (-1)] σ Q := ev_A1 d45_11 rfl
theorem d45_12 : decode (ab_C 45) 12 = .ok (.ireturn, 1) := by decide +kernel
theorem e45_12 {d : Nat} {l0 l1 : Option Value} {s0 : Int32} {σ : ab_St} {Q : Option Value → ab_St → Prop} : Ev d 45 12 [l0, l1] [.int s0] σ Q = Q (some (.int s0)) σ := ev_E d45_12 rfl rfl rfl rfl rfl rfl rfl
theorem d45_13 : decode (ab_C 45) 13 = .ok (.aload_n 0, 1) := by decide +kernel
theorem e45_13 {d : Nat} {l1 : Option Value} {x : Nat} {σ : ab_St} {Q : Option Value → ab_St → Prop} : Ev d 45 13 [some (.ref x), l1] [] σ Q = Ev d 45 14 [some (.ref x), l1] [.ref x] σ Q := ev_A1 d45_13 rfl
theorem d45_14 : decode (ab_C 45) 14 = .ok (.getfield 33, 3) := by decide +kernel
theorem e45_14 {d : Nat} {l0 l1 : Option Value} {s0 : Nat} {σ : ab_St} {Q : Option Value → ab_St → Prop} : Ev d 45 14 [l0, l1] [.ref s0] σ Q = (ab_k s0 = 0 ∧ Ev d 45 17 [l0, l1] [.ref (ab_r s0 3)] σ Q) := ev_Hc (c := ab_k s0 = 0) d45_14 rfl rfl rfl rfl rfl rfl rfl rfl
theorem d45_17 : decode (ab_C 45) 17 = .ok (.aload_n 0, 1) := by decide +kernel
theorem e45_17 {d : Nat} {l1 : Option Value} {x : Nat} {s0 : Nat} {σ : ab_St} {Q : Option Value → ab_St → Prop} : Ev d 45 17 [some (.ref x), l1] [.ref s0] σ Q = Ev d 45 18 [some (.ref x), l1] [.ref x, .ref s0] σ Q := ev_A1 d45_17 rfl
theorem d45_18 : decode (ab_C 45) 18 = .ok (.getfield 26, 3) := by decide +kernel
theorem e45_18 {d : Nat} {l0 l1 : Option Value} {s0 : Nat} {s1 : Nat} {σ : ab_St} {Q : Option Value → ab_St → Prop} : Ev d 45 18 [l0, l1] [.ref s0, .ref s1] σ Q = (ab_k s0 = 0 ∧ Ev d 45 21 [l0, l1] [.ref (ab_r s0 2), .ref s1] σ Q) := ev_Hc (c := ab_k s0 = 0) d45_18 rfl rfl rfl rfl rfl rfl rfl rfl
theorem d45_21 : decode (ab_C 45) 21 = .ok (.iload_n 1, 1) := by decide +kernel
theorem e45_21 {d : Nat} {l0 : Option Value} {x : Int32} {s0 : Nat} {s1 : Nat} {σ : ab_St} {Q : Option Value → ab_St → Prop} : Ev d 45 21 [l0, some (.int x)] [.ref s0, .ref s1] σ Q = Ev d 45 22 [l0, some (.int x)] [.int x, .ref s0, .ref s1] σ Q := ev_A1 d45_21 rfl
theorem d45_22 : decode (ab_C 45) 22 = .ok (.invokevirtual 161, 3) := by decide +kernel
theorem e45_22 {d : Nat} {l0 l1 : Option Value} {s0 : Int32} {s1 : Nat} {s2 : Nat} {σ : ab_St} {Q : Option Value → ab_St → Prop} : Ev (d + 1) 45 22 [l0, l1] [.int s0, .ref s1, .ref s2] σ Q = (ab_k s2 = 4 ∧ Ev d 46 0 [some (.ref s2), some (.ref s1), some (.int s0), none, none] [] σ (fun r σ2 => Ev (d + 1) 45 25 [l0, l1] (r.toList ++ []) σ2 Q)) := ev_KV (b := s2) (ls := [l0, l1]) (st := [.int s0, .ref s1, .ref s2]) (as := [.ref s1, .int s0]) (rest := []) d45_22 rfl rfl rfl (Nat.le_of_ble_eq_true rfl) (Nat.le_of_ble_eq_true rfl) (Nat.le_of_ble_eq_true rfl) rfl rfl rfl rfl rfl rfl rfl
theorem d45_25 : decode (ab_C 45) 25 = .ok (.ifCond .eq 7, 3) := by decide +kernel
theorem e45_25 {d : Nat} {l0 l1 : Option Value} {s0 : Int32} {σ : ab_St} {Q : Option Value → ab_St → Prop} : Ev d 45 25 [l0, l1] [.int s0] σ Q = if s0 = 0 then Ev d 45 32 [l0, l1] [] σ Q else Ev d 45 28 [l0, l1] [] σ Q := ev_B (c := s0 = 0) d45_25 rfl rfl rfl rfl rfl
theorem d45_28 : decode (ab_C 45) 28 = .ok (.iconst 1, 1) := by decide +kernel
theorem e45_28 {d : Nat} {l0 l1 : Option Value} {σ : ab_St} {Q : Option Value → ab_St → Prop} : Ev d 45 28 [l0, l1] [] σ Q = Ev d 45 29 [l0, l1] [.int 1] σ Q := ev_A1 d45_28 rfl
theorem d45_29 : decode (ab_C 45) 29 = .ok (.goto 4, 3) := by decide +kernel
theorem e45_29 {d : Nat} {l0 l1 : Option Value} {s0 : Int32} {σ : ab_St} {Q : Option Value → ab_St → Prop} : Ev d 45 29 [l0, l1] [.int s0] σ Q = Ev d 45 33 [l0, l1] [.int s0] σ Q := ev_J d45_29 rfl rfl rfl rfl rfl
theorem d45_32 : decode (ab_C 45) 32 = .ok (.iconst 0, 1) := by decide +kernel
theorem e45_32 {d : Nat} {l0 l1 : Option Value} {σ : ab_St} {Q : Option Value → ab_St → Prop} : Ev d 45 32 [l0, l1] [] σ Q = Ev d 45 33 [l0, l1] [.int 0] σ Q := ev_A1 d45_32 rfl
theorem d45_33 : decode (ab_C 45) 33 = .ok (.ireturn, 1) := by decide +kernel
theorem e45_33 {d : Nat} {l0 l1 : Option Value} {s0 : Int32} {σ : ab_St} {Q : Option Value → ab_St → Prop} : Ev d 45 33 [l0, l1] [.int s0] σ Q = Q (some (.int s0)) σ := ev_E d45_33 rfl rfl rfl rfl rfl rfl rfl
/-! SaidLeast$State.allows(LSaidLeast$Told;I)Z -/
theorem d46_0 : decode (ab_C 46) 0 = .ok (.aload_n 1, 1) := by decide +kernel
theorem e46_0 {d : Nat} {l0 l2 l3 l4 : Option Value} {x : Nat} {σ : ab_St} {Q : Option Value → ab_St → Prop} : Ev d 46 0 [l0, some (.ref x), l2, l3, l4] [] σ Q = Ev d 46 1 [l0, some (.ref x), l2, l3, l4] [.ref x] σ Q := ev_A1 d46_0 rfl
theorem d46_1 : decode (ab_C 46) 1 = .ok (.getfield 60, 3) := by decide +kernel
theorem e46_1 {d : Nat} {l0 l1 l2 l3 l4 : Option Value} {s0 : Nat} {σ : ab_St} {Q : Option Value → ab_St → Prop} : Ev d 46 1 [l0, l1, l2, l3, l4] [.ref s0] σ Q = (ab_k s0 = 3 ∧ Ev d 46 4 [l0, l1, l2, l3, l4] [.ref (ab_r s0 0)] σ Q) := ev_Hc (c := ab_k s0 = 3) d46_1 rfl rfl rfl rfl rfl rfl rfl rfl
theorem d46_4 : decode (ab_C 46) 4 = .ok (.iload_n 2, 1) := by decide +kernel
theorem e46_4 {d : Nat} {l0 l1 l3 l4 : Option Value} {x : Int32} {s0 : Nat} {σ : ab_St} {Q : Option Value → ab_St → Prop} : Ev d 46 4 [l0, l1, some (.int x), l3, l4] [.ref s0] σ Q = Ev d 46 5 [l0, l1, some (.int x), l3, l4] [.int x, .ref s0] σ Q := ev_A1 d46_4 rfl
theorem d46_5 : decode (ab_C 46) 5 = .ok (.iaload, 1) := by decide +kernel
theorem e46_5 {d : Nat} {l0 l1 l2 l3 l4 : Option Value} {s0 : Int32} {s1 : Nat} {σ : ab_St} {Q : Option Value → ab_St → Prop} : Ev d 46 5 [l0, l1, l2, l3, l4] [.int s0, .ref s1] σ Q = ((ab_k s1 = 100 ∧ ab_in s0 (ab_n s1)) ∧ Ev d 46 6 [l0, l1, l2, l3, l4] [.int (σ.1 s1 s0.toNatClampNeg)] σ Q) := ev_Hc (c := ab_k s1 = 100 ∧ ab_in s0 (ab_n s1)) d46_5 rfl rfl rfl rfl rfl rfl rfl rfl
theorem d46_6 : decode (ab_C 46) 6 = .ok (.istore_n 3, 1) := by decide +kernel
theorem e46_6 {d : Nat} {l0 l1 l2 l3 l4 : Option Value} {s0 : Int32} {σ : ab_St} {Q : Option Value → ab_St → Prop} : Ev d 46 6 [l0, l1, l2, l3, l4] [.int s0] σ Q = Ev d 46 7 [l0, l1, l2, some (.int s0), l4] [] σ Q := ev_S d46_6 rfl rfl rfl rfl
theorem d46_7 : decode (ab_C 46) 7 = .ok (.aload_n 0, 1) := by decide +kernel
theorem e46_7 {d : Nat} {l1 l2 l3 l4 : Option Value} {x : Nat} {σ : ab_St} {Q : Option Value → ab_St → Prop} : Ev d 46 7 [some (.ref x), l1, l2, l3, l4] [] σ Q = Ev d 46 8 [some (.ref x), l1, l2, l3, l4] [.ref x] σ Q := ev_A1 d46_7 rfl
theorem d46_8 : decode (ab_C 46) 8 = .ok (.getfield 28, 3) := by decide +kernel
theorem e46_8 {d : Nat} {l0 l1 l2 l3 l4 : Option Value} {s0 : Nat} {σ : ab_St} {Q : Option Value → ab_St → Prop} : Ev d 46 8 [l0, l1, l2, l3, l4] [.ref s0] σ Q = (ab_k s0 = 4 ∧ Ev d 46 11 [l0, l1, l2, l3, l4] [.int (σ.1 s0 2)] σ Q) := ev_Hc (c := ab_k s0 = 4) d46_8 rfl rfl rfl rfl rfl rfl rfl rfl
theorem d46_11 : decode (ab_C 46) 11 = .ok (.iload_n 2, 1) := by decide +kernel
theorem e46_11 {d : Nat} {l0 l1 l3 l4 : Option Value} {x : Int32} {s0 : Int32} {σ : ab_St} {Q : Option Value → ab_St → Prop} : Ev d 46 11 [l0, l1, some (.int x), l3, l4] [.int s0] σ Q = Ev d 46 12 [l0, l1, some (.int x), l3, l4] [.int x, .int s0] σ Q := ev_A1 d46_11 rfl
theorem d46_12 : decode (ab_C 46) 12 = .ok (.invokestatic 40, 3) := by decide +kernel
theorem e46_12 {d : Nat} {l0 l1 l2 l3 l4 : Option Value} {s0 : Int32} {s1 : Int32} {σ : ab_St} {Q : Option Value → ab_St → Prop} : Ev (d + 1) 46 12 [l0, l1, l2, l3, l4] [.int s0, .int s1] σ Q = Ev d 32 0 [some (.int s1), some (.int s0)] [] σ (fun r σ2 => Ev (d + 1) 46 15 [l0, l1, l2, l3, l4] (r.toList ++ []) σ2 Q) := ev_K0 (y := 32) (ls := [l0, l1, l2, l3, l4]) (st := [.int s0, .int s1]) (as := [.int s1, .int s0]) (rest := []) d46_12 rfl rfl rfl rfl rfl rfl rfl rfl
theorem d46_15 : decode (ab_C 46) 15 = .ok (.ifCond .ne 14, 3) := by decide +kernel
theorem e46_15 {d : Nat} {l0 l1 l2 l3 l4 : Option Value} {s0 : Int32} {σ : ab_St} {Q : Option Value → ab_St → Prop} : Ev d 46 15 [l0, l1, l2, l3, l4] [.int s0] σ Q = if s0 = 0 then Ev d 46 18 [l0, l1, l2, l3, l4] [] σ Q else Ev d 46 29 [l0, l1, l2, l3, l4] [] σ Q := ev_B (c := s0 = 0) d46_15 rfl rfl rfl rfl rfl
theorem d46_18 : decode (ab_C 46) 18 = .ok (.aload_n 0, 1) := by decide +kernel
theorem e46_18 {d : Nat} {l1 l2 l3 l4 : Option Value} {x : Nat} {σ : ab_St} {Q : Option Value → ab_St → Prop} : Ev d 46 18 [some (.ref x), l1, l2, l3, l4] [] σ Q = Ev d 46 19 [some (.ref x), l1, l2, l3, l4] [.ref x] σ Q := ev_A1 d46_18 rfl
theorem d46_19 : decode (ab_C 46) 19 = .ok (.getfield 25, 3) := by decide +kernel
theorem e46_19 {d : Nat} {l0 l1 l2 l3 l4 : Option Value} {s0 : Nat} {σ : ab_St} {Q : Option Value → ab_St → Prop} : Ev d 46 19 [l0, l1, l2, l3, l4] [.ref s0] σ Q = (ab_k s0 = 4 ∧ Ev d 46 22 [l0, l1, l2, l3, l4] [.int (σ.1 s0 1)] σ Q) := ev_Hc (c := ab_k s0 = 4) d46_19 rfl rfl rfl rfl rfl rfl rfl rfl
theorem d46_22 : decode (ab_C 46) 22 = .ok (.iload_n 3, 1) := by decide +kernel
theorem e46_22 {d : Nat} {l0 l1 l2 l4 : Option Value} {x : Int32} {s0 : Int32} {σ : ab_St} {Q : Option Value → ab_St → Prop} : Ev d 46 22 [l0, l1, l2, some (.int x), l4] [.int s0] σ Q = Ev d 46 23 [l0, l1, l2, some (.int x), l4] [.int x, .int s0] σ Q := ev_A1 d46_22 rfl
theorem d46_23 : decode (ab_C 46) 23 = .ok (.invokestatic 40, 3) := by decide +kernel
theorem e46_23 {d : Nat} {l0 l1 l2 l3 l4 : Option Value} {s0 : Int32} {s1 : Int32} {σ : ab_St} {Q : Option Value → ab_St → Prop} : Ev (d + 1) 46 23 [l0, l1, l2, l3, l4] [.int s0, .int s1] σ Q = Ev d 32 0 [some (.int s1), some (.int s0)] [] σ (fun r σ2 => Ev (d + 1) 46 26 [l0, l1, l2, l3, l4] (r.toList ++ []) σ2 Q) := ev_K0 (y := 32) (ls := [l0, l1, l2, l3, l4]) (st := [.int s0, .int s1]) (as := [.int s1, .int s0]) (rest := []) d46_23 rfl rfl rfl rfl rfl rfl rfl rfl
theorem d46_26 : decode (ab_C 46) 26 = .ok (.ifCond .ne 5, 3) := by decide +kernel
theorem e46_26 {d : Nat} {l0 l1 l2 l3 l4 : Option Value} {s0 : Int32} {σ : ab_St} {Q : Option Value → ab_St → Prop} : Ev d 46 26 [l0, l1, l2, l3, l4] [.int s0] σ Q = if s0 = 0 then Ev d 46 29 [l0, l1, l2, l3, l4] [] σ Q else Ev d 46 31 [l0, l1, l2, l3, l4] [] σ Q := ev_B (c := s0 = 0) d46_26 rfl rfl rfl rfl rfl
theorem d46_29 : decode (ab_C 46) 29 = .ok (.iconst 0, 1) := by decide +kernel
theorem e46_29 {d : Nat} {l0 l1 l2 l3 l4 : Option Value} {σ : ab_St} {Q : Option Value → ab_St → Prop} : Ev d 46 29 [l0, l1, l2, l3, l4] [] σ Q = Ev d 46 30 [l0, l1, l2, l3, l4] [.int 0] σ Q := ev_A1 d46_29 rfl
theorem d46_30 : decode (ab_C 46) 30 = .ok (.ireturn, 1) := by decide +kernel
theorem e46_30 {d : Nat} {l0 l1 l2 l3 l4 : Option Value} {s0 : Int32} {σ : ab_St} {Q : Option Value → ab_St → Prop} : Ev d 46 30 [l0, l1, l2, l3, l4] [.int s0] σ Q = ((s0 = 0 ∨ s0 = 1) ∧ Q (some (.int s0)) σ) := ev_Z d46_30 rfl
theorem d46_31 : decode (ab_C 46) 31 = .ok (.aload_n 1, 1) := by decide +kernel
theorem e46_31 {d : Nat} {l0 l2 l3 l4 : Option Value} {x : Nat} {σ : ab_St} {Q : Option Value → ab_St → Prop} : Ev d 46 31 [l0, some (.ref x), l2, l3, l4] [] σ Q = Ev d 46 32 [l0, some (.ref x), l2, l3, l4] [.ref x] σ Q := ev_A1 d46_31 rfl
theorem d46_32 : decode (ab_C 46) 32 = .ok (.getfield 65, 3) := by decide +kernel
theorem e46_32 {d : Nat} {l0 l1 l2 l3 l4 : Option Value} {s0 : Nat} {σ : ab_St} {Q : Option Value → ab_St → Prop} : Ev d 46 32 [l0, l1, l2, l3, l4] [.ref s0] σ Q = (ab_k s0 = 3 ∧ Ev d 46 35 [l0, l1, l2, l3, l4] [.ref (ab_r s0 3)] σ Q) := ev_Hc (c := ab_k s0 = 3) d46_32 rfl rfl rfl rfl rfl rfl rfl rfl
theorem d46_35 : decode (ab_C 46) 35 = .ok (.iload_n 2, 1) := by decide +kernel
theorem e46_35 {d : Nat} {l0 l1 l3 l4 : Option Value} {x : Int32} {s0 : Nat} {σ : ab_St} {Q : Option Value → ab_St → Prop} : Ev d 46 35 [l0, l1, some (.int x), l3, l4] [.ref s0] σ Q = Ev d 46 36 [l0, l1, some (.int x), l3, l4] [.int x, .ref s0] σ Q := ev_A1 d46_35 rfl
theorem d46_36 : decode (ab_C 46) 36 = .ok (.iaload, 1) := by decide +kernel
theorem e46_36 {d : Nat} {l0 l1 l2 l3 l4 : Option Value} {s0 : Int32} {s1 : Nat} {σ : ab_St} {Q : Option Value → ab_St → Prop} : Ev d 46 36 [l0, l1, l2, l3, l4] [.int s0, .ref s1] σ Q = ((ab_k s1 = 100 ∧ ab_in s0 (ab_n s1)) ∧ Ev d 46 37 [l0, l1, l2, l3, l4] [.int (σ.1 s1 s0.toNatClampNeg)] σ Q) := ev_Hc (c := ab_k s1 = 100 ∧ ab_in s0 (ab_n s1)) d46_36 rfl rfl rfl rfl rfl rfl rfl rfl
theorem d46_37 : decode (ab_C 46) 37 = .ok (.istore 4, 2) := by decide +kernel
theorem e46_37 {d : Nat} {l0 l1 l2 l3 l4 : Option Value} {s0 : Int32} {σ : ab_St} {Q : Option Value → ab_St → Prop} : Ev d 46 37 [l0, l1, l2, l3, l4] [.int s0] σ Q = Ev d 46 39 [l0, l1, l2, l3, some (.int s0)] [] σ Q := ev_S d46_37 rfl rfl rfl rfl
theorem d46_39 : decode (ab_C 46) 39 = .ok (.iload 4, 2) := by decide +kernel
theorem e46_39 {d : Nat} {l0 l1 l2 l3 : Option Value} {x : Int32} {σ : ab_St} {Q : Option Value → ab_St → Prop} : Ev d 46 39 [l0, l1, l2, l3, some (.int x)] [] σ Q = Ev d 46 41 [l0, l1, l2, l3, some (.int x)] [.int x] σ Q := ev_A1 d46_39 rfl
theorem d46_41 : decode (ab_C 46) 41 = .ok (.bipush (-9), 2) := by decide +kernel
theorem e46_41 {d : Nat} {l0 l1 l2 l3 l4 : Option Value} {s0 : Int32} {σ : ab_St} {Q : Option Value → ab_St → Prop} : Ev d 46 41 [l0, l1, l2, l3, l4] [.int s0] σ Q = Ev d 46 43 [l0, l1, l2, l3, l4] [.int (-9), .int s0] σ Q := ev_A1 d46_41 rfl
theorem d46_43 : decode (ab_C 46) 43 = .ok (.if_icmp .ne 14, 3) := by decide +kernel
theorem e46_43 {d : Nat} {l0 l1 l2 l3 l4 : Option Value} {s0 : Int32} {s1 : Int32} {σ : ab_St} {Q : Option Value → ab_St → Prop} : Ev d 46 43 [l0, l1, l2, l3, l4] [.int s0, .int s1] σ Q = if s1 = s0 then Ev d 46 46 [l0, l1, l2, l3, l4] [] σ Q else Ev d 46 57 [l0, l1, l2, l3, l4] [] σ Q := ev_B (c := s1 = s0) d46_43 rfl rfl rfl rfl rfl
theorem d46_46 : decode (ab_C 46) 46 = .ok (.aload_n 0, 1) := by decide +kernel
theorem e46_46 {d : Nat} {l1 l2 l3 l4 : Option Value} {x : Nat} {σ : ab_St} {Q : Option Value → ab_St → Prop} : Ev d 46 46 [some (.ref x), l1, l2, l3, l4] [] σ Q = Ev d 46 47 [some (.ref x), l1, l2, l3, l4] [.ref x] σ Q := ev_A1 d46_46 rfl
theorem d46_47 : decode (ab_C 46) 47 = .ok (.invokevirtual 68, 3) := by decide +kernel
theorem e46_47 {d : Nat} {l0 l1 l2 l3 l4 : Option Value} {s0 : Nat} {σ : ab_St} {Q : Option Value → ab_St → Prop} : Ev (d + 1) 46 47 [l0, l1, l2, l3, l4] [.ref s0] σ Q = (ab_k s0 = 4 ∧ Ev d 38 0 [some (.ref s0), none, none, none] [] σ (fun r σ2 => Ev (d + 1) 46 50 [l0, l1, l2, l3, l4] (r.toList ++ []) σ2 Q)) := ev_KV (b := s0) (ls := [l0, l1, l2, l3, l4]) (st := [.ref s0]) (as := []) (rest := []) d46_47 rfl rfl rfl (Nat.le_of_ble_eq_true rfl) (Nat.le_of_ble_eq_true rfl) (Nat.le_of_ble_eq_true rfl) rfl rfl rfl rfl rfl rfl rfl
theorem d46_50 : decode (ab_C 46) 50 = .ok (.iload_n 3, 1) := by decide +kernel
theorem e46_50 {d : Nat} {l0 l1 l2 l4 : Option Value} {x : Int32} {s0 : Int32} {σ : ab_St} {Q : Option Value → ab_St → Prop} : Ev d 46 50 [l0, l1, l2, some (.int x), l4] [.int s0] σ Q = Ev d 46 51 [l0, l1, l2, some (.int x), l4] [.int x, .int s0] σ Q := ev_A1 d46_50 rfl
theorem d46_51 : decode (ab_C 46) 51 = .ok (.invokestatic 40, 3) := by decide +kernel
theorem e46_51 {d : Nat} {l0 l1 l2 l3 l4 : Option Value} {s0 : Int32} {s1 : Int32} {σ : ab_St} {Q : Option Value → ab_St → Prop} : Ev (d + 1) 46 51 [l0, l1, l2, l3, l4] [.int s0, .int s1] σ Q = Ev d 32 0 [some (.int s1), some (.int s0)] [] σ (fun r σ2 => Ev (d + 1) 46 54 [l0, l1, l2, l3, l4] (r.toList ++ []) σ2 Q) := ev_K0 (y := 32) (ls := [l0, l1, l2, l3, l4]) (st := [.int s0, .int s1]) (as := [.int s1, .int s0]) (rest := []) d46_51 rfl rfl rfl rfl rfl rfl rfl rfl
theorem d46_54 : decode (ab_C 46) 54 = .ok (.goto 17, 3) := by decide +kernel
theorem e46_54 {d : Nat} {l0 l1 l2 l3 l4 : Option Value} {s0 : Int32} {σ : ab_St} {Q : Option Value → ab_St → Prop} : Ev d 46 54 [l0, l1, l2, l3, l4] [.int s0] σ Q = Ev d 46 71 [l0, l1, l2, l3, l4] [.int s0] σ Q := ev_J d46_54 rfl rfl rfl rfl rfl
theorem d46_57 : decode (ab_C 46) 57 = .ok (.iload 4, 2) := by decide +kernel
theorem e46_57 {d : Nat} {l0 l1 l2 l3 : Option Value} {x : Int32} {σ : ab_St} {Q : Option Value → ab_St → Prop} : Ev d 46 57 [l0, l1, l2, l3, some (.int x)] [] σ Q = Ev d 46 59 [l0, l1, l2, l3, some (.int x)] [.int x] σ Q := ev_A1 d46_57 rfl
theorem d46_59 : decode (ab_C 46) 59 = .ok (.aload_n 0, 1) := by decide +kernel
theorem e46_59 {d : Nat} {l1 l2 l3 l4 : Option Value} {x : Nat} {s0 : Int32} {σ : ab_St} {Q : Option Value → ab_St → Prop} : Ev d 46 59 [some (.ref x), l1, l2, l3, l4] [.int s0] σ Q = Ev d 46 60 [some (.ref x), l1, l2, l3, l4] [.ref x, .int s0] σ Q := ev_A1 d46_59 rfl
theorem d46_60 : decode (ab_C 46) 60 = .ok (.getfield 15, 3) := by decide +kernel
theorem e46_60 {d : Nat} {l0 l1 l2 l3 l4 : Option Value} {s0 : Nat} {s1 : Int32} {σ : ab_St} {Q : Option Value → ab_St → Prop} : Ev d 46 60 [l0, l1, l2, l3, l4] [.ref s0, .int s1] σ Q = (ab_k s0 = 4 ∧ Ev d 46 63 [l0, l1, l2, l3, l4] [.int (σ.1 s0 3), .int s1] σ Q) := ev_Hc (c := ab_k s0 = 4) d46_60 rfl rfl rfl rfl rfl rfl rfl rfl
theorem d46_63 : decode (ab_C 46) 63 = .ok (.if_icmp .ne 7, 3) := by decide +kernel
theorem e46_63 {d : Nat} {l0 l1 l2 l3 l4 : Option Value} {s0 : Int32} {s1 : Int32} {σ : ab_St} {Q : Option Value → ab_St → Prop} : Ev d 46 63 [l0, l1, l2, l3, l4] [.int s0, .int s1] σ Q = if s1 = s0 then Ev d 46 66 [l0, l1, l2, l3, l4] [] σ Q else Ev d 46 70 [l0, l1, l2, l3, l4] [] σ Q := ev_B (c := s1 = s0) d46_63 rfl rfl rfl rfl rfl
theorem d46_66 : decode (ab_C 46) 66 = .ok (.iconst 1, 1) := by decide +kernel
theorem e46_66 {d : Nat} {l0 l1 l2 l3 l4 : Option Value} {σ : ab_St} {Q : Option Value → ab_St → Prop} : Ev d 46 66 [l0, l1, l2, l3, l4] [] σ Q = Ev d 46 67 [l0, l1, l2, l3, l4] [.int 1] σ Q := ev_A1 d46_66 rfl
theorem d46_67 : decode (ab_C 46) 67 = .ok (.goto 4, 3) := by decide +kernel
theorem e46_67 {d : Nat} {l0 l1 l2 l3 l4 : Option Value} {s0 : Int32} {σ : ab_St} {Q : Option Value → ab_St → Prop} : Ev d 46 67 [l0, l1, l2, l3, l4] [.int s0] σ Q = Ev d 46 71 [l0, l1, l2, l3, l4] [.int s0] σ Q := ev_J d46_67 rfl rfl rfl rfl rfl
theorem d46_70 : decode (ab_C 46) 70 = .ok (.iconst 0, 1) := by decide +kernel
theorem e46_70 {d : Nat} {l0 l1 l2 l3 l4 : Option Value} {σ : ab_St} {Q : Option Value → ab_St → Prop} : Ev d 46 70 [l0, l1, l2, l3, l4] [] σ Q = Ev d 46 71 [l0, l1, l2, l3, l4] [.int 0] σ Q := ev_A1 d46_70 rfl
theorem d46_71 : decode (ab_C 46) 71 = .ok (.ireturn, 1) := by decide +kernel
theorem e46_71 {d : Nat} {l0 l1 l2 l3 l4 : Option Value} {s0 : Int32} {σ : ab_St} {Q : Option Value → ab_St → Prop} : Ev d 46 71 [l0, l1, l2, l3, l4] [.int s0] σ Q = ((s0 = 0 ∨ s0 = 1) ∧ Q (some (.int s0)) σ) := ev_Z d46_71 rfl
/-! SaidLeast.say(I)I -/
theorem d47_0 : decode (ab_C 47) 0 = .ok (.aload_n 0, 1) := by decide +kernel
theorem e47_0 {d : Nat} {l1 l2 : Option Value} {x : Nat} {σ : ab_St} {Q : Option Value → ab_St → Prop} : Ev d 47 0 [some (.ref x), l1, l2] [] σ Q = Ev d 47 1 [some (.ref x), l1, l2] [.ref x] σ Q := ev_A1 d47_0 rfl
theorem d47_1 : decode (ab_C 47) 1 = .ok (.getfield 26, 3) := by decide +kernel
theorem e47_1 {d : Nat} {l0 l1 l2 : Option Value} {s0 : Nat} {σ : ab_St} {Q : Option Value → ab_St → Prop} : Ev d 47 1 [l0, l1, l2] [.ref s0] σ Q = (ab_k s0 = 0 ∧ Ev d 47 4 [l0, l1, l2] [.ref (ab_r s0 2)] σ Q) := ev_Hc (c := ab_k s0 = 0) d47_1 rfl rfl rfl rfl rfl rfl rfl rfl
theorem d47_4 : decode (ab_C 47) 4 = .ok (.iload_n 1, 1) := by decide +kernel
theorem e47_4 {d : Nat} {l0 l2 : Option Value} {x : Int32} {s0 : Nat} {σ : ab_St} {Q : Option Value → ab_St → Prop} : Ev d 47 4 [l0, some (.int x), l2] [.ref s0] σ Q = Ev d 47 5 [l0, some (.int x), l2] [.int x, .ref s0] σ Q := ev_A1 d47_4 rfl
theorem d47_5 : decode (ab_C 47) 5 = .ok (.invokevirtual 148, 3) := by decide +kernel
theorem e47_5 {d : Nat} {l0 l1 l2 : Option Value} {s0 : Int32} {s1 : Nat} {σ : ab_St} {Q : Option Value → ab_St → Prop} : Ev (d + 1) 47 5 [l0, l1, l2] [.int s0, .ref s1] σ Q = (ab_k s1 = 3 ∧ Ev d 31 0 [some (.ref s1), some (.int s0)] [] σ (fun r σ2 => Ev (d + 1) 47 8 [l0, l1, l2] (r.toList ++ []) σ2 Q)) := ev_KV (b := s1) (ls := [l0, l1, l2]) (st := [.int s0, .ref s1]) (as := [.int s0]) (rest := []) d47_5 rfl rfl rfl (Nat.le_of_ble_eq_true rfl) (Nat.le_of_ble_eq_true rfl) (Nat.le_of_ble_eq_true rfl) rfl rfl rfl rfl rfl rfl rfl
theorem d47_8 : decode (ab_C 47) 8 = .ok (.ifCond .ne 5, 3) := by decide +kernel
theorem e47_8 {d : Nat} {l0 l1 l2 : Option Value} {s0 : Int32} {σ : ab_St} {Q : Option Value → ab_St → Prop} : Ev d 47 8 [l0, l1, l2] [.int s0] σ Q = if s0 = 0 then Ev d 47 11 [l0, l1, l2] [] σ Q else Ev d 47 13 [l0, l1, l2] [] σ Q := ev_B (c := s0 = 0) d47_8 rfl rfl rfl rfl rfl
theorem d47_11 : decode (ab_C 47) 11 = .ok (.iconst (-1), 1) := by decide +kernel
theorem e47_11 {d : Nat} {l0 l1 l2 : Option Value} {σ : ab_St} {Q : Option Value → ab_St → Prop} : Ev d 47 11 [l0, l1, l2] [] σ Q = Ev d 47 12 [l0, l1, l2] [.int (-1)] σ Q := ev_A1 d47_11 rfl
theorem d47_12 : decode (ab_C 47) 12 = .ok (.ireturn, 1) := by decide +kernel
theorem e47_12 {d : Nat} {l0 l1 l2 : Option Value} {s0 : Int32} {σ : ab_St} {Q : Option Value → ab_St → Prop} : Ev d 47 12 [l0, l1, l2] [.int s0] σ Q = Q (some (.int s0)) σ := ev_E d47_12 rfl rfl rfl rfl rfl rfl rfl
theorem d47_13 : decode (ab_C 47) 13 = .ok (.aload_n 0, 1) := by decide +kernel
theorem e47_13 {d : Nat} {l1 l2 : Option Value} {x : Nat} {σ : ab_St} {Q : Option Value → ab_St → Prop} : Ev d 47 13 [some (.ref x), l1, l2] [] σ Q = Ev d 47 14 [some (.ref x), l1, l2] [.ref x] σ Q := ev_A1 d47_13 rfl
theorem d47_14 : decode (ab_C 47) 14 = .ok (.getfield 33, 3) := by decide +kernel
theorem e47_14 {d : Nat} {l0 l1 l2 : Option Value} {s0 : Nat} {σ : ab_St} {Q : Option Value → ab_St → Prop} : Ev d 47 14 [l0, l1, l2] [.ref s0] σ Q = (ab_k s0 = 0 ∧ Ev d 47 17 [l0, l1, l2] [.ref (ab_r s0 3)] σ Q) := ev_Hc (c := ab_k s0 = 0) d47_14 rfl rfl rfl rfl rfl rfl rfl rfl
theorem d47_17 : decode (ab_C 47) 17 = .ok (.aload_n 0, 1) := by decide +kernel
theorem e47_17 {d : Nat} {l1 l2 : Option Value} {x : Nat} {s0 : Nat} {σ : ab_St} {Q : Option Value → ab_St → Prop} : Ev d 47 17 [some (.ref x), l1, l2] [.ref s0] σ Q = Ev d 47 18 [some (.ref x), l1, l2] [.ref x, .ref s0] σ Q := ev_A1 d47_17 rfl
theorem d47_18 : decode (ab_C 47) 18 = .ok (.getfield 26, 3) := by decide +kernel
theorem e47_18 {d : Nat} {l0 l1 l2 : Option Value} {s0 : Nat} {s1 : Nat} {σ : ab_St} {Q : Option Value → ab_St → Prop} : Ev d 47 18 [l0, l1, l2] [.ref s0, .ref s1] σ Q = (ab_k s0 = 0 ∧ Ev d 47 21 [l0, l1, l2] [.ref (ab_r s0 2), .ref s1] σ Q) := ev_Hc (c := ab_k s0 = 0) d47_18 rfl rfl rfl rfl rfl rfl rfl rfl
theorem d47_21 : decode (ab_C 47) 21 = .ok (.iload_n 1, 1) := by decide +kernel
theorem e47_21 {d : Nat} {l0 l2 : Option Value} {x : Int32} {s0 : Nat} {s1 : Nat} {σ : ab_St} {Q : Option Value → ab_St → Prop} : Ev d 47 21 [l0, some (.int x), l2] [.ref s0, .ref s1] σ Q = Ev d 47 22 [l0, some (.int x), l2] [.int x, .ref s0, .ref s1] σ Q := ev_A1 d47_21 rfl
theorem d47_22 : decode (ab_C 47) 22 = .ok (.invokevirtual 161, 3) := by decide +kernel
theorem e47_22 {d : Nat} {l0 l1 l2 : Option Value} {s0 : Int32} {s1 : Nat} {s2 : Nat} {σ : ab_St} {Q : Option Value → ab_St → Prop} : Ev (d + 1) 47 22 [l0, l1, l2] [.int s0, .ref s1, .ref s2] σ Q = (ab_k s2 = 4 ∧ Ev d 46 0 [some (.ref s2), some (.ref s1), some (.int s0), none, none] [] σ (fun r σ2 => Ev (d + 1) 47 25 [l0, l1, l2] (r.toList ++ []) σ2 Q)) := ev_KV (b := s2) (ls := [l0, l1, l2]) (st := [.int s0, .ref s1, .ref s2]) (as := [.ref s1, .int s0]) (rest := []) d47_22 rfl rfl rfl (Nat.le_of_ble_eq_true rfl) (Nat.le_of_ble_eq_true rfl) (Nat.le_of_ble_eq_true rfl) rfl rfl rfl rfl rfl rfl rfl
theorem d47_25 : decode (ab_C 47) 25 = .ok (.ifCond .ne 6, 3) := by decide +kernel
theorem e47_25 {d : Nat} {l0 l1 l2 : Option Value} {s0 : Int32} {σ : ab_St} {Q : Option Value → ab_St → Prop} : Ev d 47 25 [l0, l1, l2] [.int s0] σ Q = if s0 = 0 then Ev d 47 28 [l0, l1, l2] [] σ Q else Ev d 47 31 [l0, l1, l2] [] σ Q := ev_B (c := s0 = 0) d47_25 rfl rfl rfl rfl rfl
theorem d47_28 : decode (ab_C 47) 28 = .ok (.bipush (-3), 2) := by decide +kernel
theorem e47_28 {d : Nat} {l0 l1 l2 : Option Value} {σ : ab_St} {Q : Option Value → ab_St → Prop} : Ev d 47 28 [l0, l1, l2] [] σ Q = Ev d 47 30 [l0, l1, l2] [.int (-3)] σ Q := ev_A1 d47_28 rfl
theorem d47_30 : decode (ab_C 47) 30 = .ok (.ireturn, 1) := by decide +kernel
theorem e47_30 {d : Nat} {l0 l1 l2 : Option Value} {s0 : Int32} {σ : ab_St} {Q : Option Value → ab_St → Prop} : Ev d 47 30 [l0, l1, l2] [.int s0] σ Q = Q (some (.int s0)) σ := ev_E d47_30 rfl rfl rfl rfl rfl rfl rfl
theorem d47_31 : decode (ab_C 47) 31 = .ok (.aload_n 0, 1) := by decide +kernel
theorem e47_31 {d : Nat} {l1 l2 : Option Value} {x : Nat} {σ : ab_St} {Q : Option Value → ab_St → Prop} : Ev d 47 31 [some (.ref x), l1, l2] [] σ Q = Ev d 47 32 [some (.ref x), l1, l2] [.ref x] σ Q := ev_A1 d47_31 rfl
theorem d47_32 : decode (ab_C 47) 32 = .ok (.getfield 26, 3) := by decide +kernel
theorem e47_32 {d : Nat} {l0 l1 l2 : Option Value} {s0 : Nat} {σ : ab_St} {Q : Option Value → ab_St → Prop} : Ev d 47 32 [l0, l1, l2] [.ref s0] σ Q = (ab_k s0 = 0 ∧ Ev d 47 35 [l0, l1, l2] [.ref (ab_r s0 2)] σ Q) := ev_Hc (c := ab_k s0 = 0) d47_32 rfl rfl rfl rfl rfl rfl rfl rfl
theorem d47_35 : decode (ab_C 47) 35 = .ok (.getfield 151, 3) := by decide +kernel
theorem e47_35 {d : Nat} {l0 l1 l2 : Option Value} {s0 : Nat} {σ : ab_St} {Q : Option Value → ab_St → Prop} : Ev d 47 35 [l0, l1, l2] [.ref s0] σ Q = (ab_k s0 = 3 ∧ Ev d 47 38 [l0, l1, l2] [.ref (ab_r s0 0)] σ Q) := ev_Hc (c := ab_k s0 = 3) d47_35 rfl rfl rfl rfl rfl rfl rfl rfl
theorem d47_38 : decode (ab_C 47) 38 = .ok (.iload_n 1, 1) := by decide +kernel
theorem e47_38 {d : Nat} {l0 l2 : Option Value} {x : Int32} {s0 : Nat} {σ : ab_St} {Q : Option Value → ab_St → Prop} : Ev d 47 38 [l0, some (.int x), l2] [.ref s0] σ Q = Ev d 47 39 [l0, some (.int x), l2] [.int x, .ref s0] σ Q := ev_A1 d47_38 rfl
theorem d47_39 : decode (ab_C 47) 39 = .ok (.iaload, 1) := by decide +kernel
theorem e47_39 {d : Nat} {l0 l1 l2 : Option Value} {s0 : Int32} {s1 : Nat} {σ : ab_St} {Q : Option Value → ab_St → Prop} : Ev d 47 39 [l0, l1, l2] [.int s0, .ref s1] σ Q = ((ab_k s1 = 100 ∧ ab_in s0 (ab_n s1)) ∧ Ev d 47 40 [l0, l1, l2] [.int (σ.1 s1 s0.toNatClampNeg)] σ Q) := ev_Hc (c := ab_k s1 = 100 ∧ ab_in s0 (ab_n s1)) d47_39 rfl rfl rfl rfl rfl rfl rfl rfl
theorem d47_40 : decode (ab_C 47) 40 = .ok (.istore_n 2, 1) := by decide +kernel
theorem e47_40 {d : Nat} {l0 l1 l2 : Option Value} {s0 : Int32} {σ : ab_St} {Q : Option Value → ab_St → Prop} : Ev d 47 40 [l0, l1, l2] [.int s0] σ Q = Ev d 47 41 [l0, l1, some (.int s0)] [] σ Q := ev_S d47_40 rfl rfl rfl rfl
theorem d47_41 : decode (ab_C 47) 41 = .ok (.aload_n 0, 1) := by decide +kernel
theorem e47_41 {d : Nat} {l1 l2 : Option Value} {x : Nat} {σ : ab_St} {Q : Option Value → ab_St → Prop} : Ev d 47 41 [some (.ref x), l1, l2] [] σ Q = Ev d 47 42 [some (.ref x), l1, l2] [.ref x] σ Q := ev_A1 d47_41 rfl
theorem d47_42 : decode (ab_C 47) 42 = .ok (.getfield 43, 3) := by decide +kernel
theorem e47_42 {d : Nat} {l0 l1 l2 : Option Value} {s0 : Nat} {σ : ab_St} {Q : Option Value → ab_St → Prop} : Ev d 47 42 [l0, l1, l2] [.ref s0] σ Q = (ab_k s0 = 0 ∧ Ev d 47 45 [l0, l1, l2] [.ref (ab_r s0 5)] σ Q) := ev_Hc (c := ab_k s0 = 0) d47_42 rfl rfl rfl rfl rfl rfl rfl rfl
theorem d47_45 : decode (ab_C 47) 45 = .ok (.aload_n 0, 1) := by decide +kernel
theorem e47_45 {d : Nat} {l1 l2 : Option Value} {x : Nat} {s0 : Nat} {σ : ab_St} {Q : Option Value → ab_St → Prop} : Ev d 47 45 [some (.ref x), l1, l2] [.ref s0] σ Q = Ev d 47 46 [some (.ref x), l1, l2] [.ref x, .ref s0] σ Q := ev_A1 d47_45 rfl
theorem d47_46 : decode (ab_C 47) 46 = .ok (.getfield 33, 3) := by decide +kernel
theorem e47_46 {d : Nat} {l0 l1 l2 : Option Value} {s0 : Nat} {s1 : Nat} {σ : ab_St} {Q : Option Value → ab_St → Prop} : Ev d 47 46 [l0, l1, l2] [.ref s0, .ref s1] σ Q = (ab_k s0 = 0 ∧ Ev d 47 49 [l0, l1, l2] [.ref (ab_r s0 3), .ref s1] σ Q) := ev_Hc (c := ab_k s0 = 0) d47_46 rfl rfl rfl rfl rfl rfl rfl rfl
theorem d47_49 : decode (ab_C 47) 49 = .ok (.iload_n 2, 1) := by decide +kernel
theorem e47_49 {d : Nat} {l0 l1 : Option Value} {x : Int32} {s0 : Nat} {s1 : Nat} {σ : ab_St} {Q : Option Value → ab_St → Prop} : Ev d 47 49 [l0, l1, some (.int x)] [.ref s0, .ref s1] σ Q = Ev d 47 50 [l0, l1, some (.int x)] [.int x, .ref s0, .ref s1] σ Q := ev_A1 d47_49 rfl
theorem d47_50 : decode (ab_C 47) 50 = .ok (.invokevirtual 165, 3) := by decide +kernel
theorem e47_50 {d : Nat} {l0 l1 l2 : Option Value} {s0 : Int32} {s1 : Nat} {s2 : Nat} {σ : ab_St} {Q : Option Value → ab_St → Prop} : Ev (d + 1) 47 50 [l0, l1, l2] [.int s0, .ref s1, .ref s2] σ Q = (ab_k s2 = 5 ∧ Ev d 48 0 [some (.ref s2), some (.ref s1), some (.int s0), none] [] σ (fun r σ2 => Ev (d + 1) 47 53 [l0, l1, l2] (r.toList ++ []) σ2 Q)) := ev_KV (b := s2) (ls := [l0, l1, l2]) (st := [.int s0, .ref s1, .ref s2]) (as := [.ref s1, .int s0]) (rest := []) d47_50 rfl rfl rfl (Nat.le_of_ble_eq_true rfl) (Nat.le_of_ble_eq_true rfl) (Nat.le_of_ble_eq_true rfl) rfl rfl rfl rfl rfl rfl rfl
theorem d47_53 : decode (ab_C 47) 53 = .ok (.aload_n 0, 1) := by decide +kernel
theorem e47_53 {d : Nat} {l1 l2 : Option Value} {x : Nat} {σ : ab_St} {Q : Option Value → ab_St → Prop} : Ev d 47 53 [some (.ref x), l1, l2] [] σ Q = Ev d 47 54 [some (.ref x), l1, l2] [.ref x] σ Q := ev_A1 d47_53 rfl
theorem d47_54 : decode (ab_C 47) 54 = .ok (.getfield 33, 3) := by decide +kernel
theorem e47_54 {d : Nat} {l0 l1 l2 : Option Value} {s0 : Nat} {σ : ab_St} {Q : Option Value → ab_St → Prop} : Ev d 47 54 [l0, l1, l2] [.ref s0] σ Q = (ab_k s0 = 0 ∧ Ev d 47 57 [l0, l1, l2] [.ref (ab_r s0 3)] σ Q) := ev_Hc (c := ab_k s0 = 0) d47_54 rfl rfl rfl rfl rfl rfl rfl rfl
theorem d47_57 : decode (ab_C 47) 57 = .ok (.aload_n 0, 1) := by decide +kernel
theorem e47_57 {d : Nat} {l1 l2 : Option Value} {x : Nat} {s0 : Nat} {σ : ab_St} {Q : Option Value → ab_St → Prop} : Ev d 47 57 [some (.ref x), l1, l2] [.ref s0] σ Q = Ev d 47 58 [some (.ref x), l1, l2] [.ref x, .ref s0] σ Q := ev_A1 d47_57 rfl
theorem d47_58 : decode (ab_C 47) 58 = .ok (.getfield 26, 3) := by decide +kernel
theorem e47_58 {d : Nat} {l0 l1 l2 : Option Value} {s0 : Nat} {s1 : Nat} {σ : ab_St} {Q : Option Value → ab_St → Prop} : Ev d 47 58 [l0, l1, l2] [.ref s0, .ref s1] σ Q = (ab_k s0 = 0 ∧ Ev d 47 61 [l0, l1, l2] [.ref (ab_r s0 2), .ref s1] σ Q) := ev_Hc (c := ab_k s0 = 0) d47_58 rfl rfl rfl rfl rfl rfl rfl rfl
theorem d47_61 : decode (ab_C 47) 61 = .ok (.iload_n 1, 1) := by decide +kernel
theorem e47_61 {d : Nat} {l0 l2 : Option Value} {x : Int32} {s0 : Nat} {s1 : Nat} {σ : ab_St} {Q : Option Value → ab_St → Prop} : Ev d 47 61 [l0, some (.int x), l2] [.ref s0, .ref s1] σ Q = Ev d 47 62 [l0, some (.int x), l2] [.int x, .ref s0, .ref s1] σ Q := ev_A1 d47_61 rfl
theorem d47_62 : decode (ab_C 47) 62 = .ok (.invokevirtual 169, 3) := by decide +kernel
theorem e47_62 {d : Nat} {l0 l1 l2 : Option Value} {s0 : Int32} {s1 : Nat} {s2 : Nat} {σ : ab_St} {Q : Option Value → ab_St → Prop} : Ev (d + 1) 47 62 [l0, l1, l2] [.int s0, .ref s1, .ref s2] σ Q = (ab_k s2 = 4 ∧ Ev d 49 0 [some (.ref s2), some (.ref s1), some (.int s0)] [] σ (fun r σ2 => Ev (d + 1) 47 65 [l0, l1, l2] (r.toList ++ []) σ2 Q)) := ev_KV (b := s2) (ls := [l0, l1, l2]) (st := [.int s0, .ref s1, .ref s2]) (as := [.ref s1, .int s0]) (rest := []) d47_62 rfl rfl rfl (Nat.le_of_ble_eq_true rfl) (Nat.le_of_ble_eq_true rfl) (Nat.le_of_ble_eq_true rfl) rfl rfl rfl rfl rfl rfl rfl
theorem d47_65 : decode (ab_C 47) 65 = .ok (.aload_n 0, 1) := by decide +kernel
theorem e47_65 {d : Nat} {l1 l2 : Option Value} {x : Nat} {σ : ab_St} {Q : Option Value → ab_St → Prop} : Ev d 47 65 [some (.ref x), l1, l2] [] σ Q = Ev d 47 66 [some (.ref x), l1, l2] [.ref x] σ Q := ev_A1 d47_65 rfl
theorem d47_66 : decode (ab_C 47) 66 = .ok (.getfield 33, 3) := by decide +kernel
theorem e47_66 {d : Nat} {l0 l1 l2 : Option Value} {s0 : Nat} {σ : ab_St} {Q : Option Value → ab_St → Prop} : Ev d 47 66 [l0, l1, l2] [.ref s0] σ Q = (ab_k s0 = 0 ∧ Ev d 47 69 [l0, l1, l2] [.ref (ab_r s0 3)] σ Q) := ev_Hc (c := ab_k s0 = 0) d47_66 rfl rfl rfl rfl rfl rfl rfl rfl
theorem d47_69 : decode (ab_C 47) 69 = .ok (.getfield 137, 3) := by decide +kernel
theorem e47_69 {d : Nat} {l0 l1 l2 : Option Value} {s0 : Nat} {σ : ab_St} {Q : Option Value → ab_St → Prop} : Ev d 47 69 [l0, l1, l2] [.ref s0] σ Q = (ab_k s0 = 4 ∧ Ev d 47 72 [l0, l1, l2] [.ref (ab_r s0 0)] σ Q) := ev_Hc (c := ab_k s0 = 4) d47_69 rfl rfl rfl rfl rfl rfl rfl rfl
theorem d47_72 : decode (ab_C 47) 72 = .ok (.iload_n 2, 1) := by decide +kernel
theorem e47_72 {d : Nat} {l0 l1 : Option Value} {x : Int32} {s0 : Nat} {σ : ab_St} {Q : Option Value → ab_St → Prop} : Ev d 47 72 [l0, l1, some (.int x)] [.ref s0] σ Q = Ev d 47 73 [l0, l1, some (.int x)] [.int x, .ref s0] σ Q := ev_A1 d47_72 rfl
theorem d47_73 : decode (ab_C 47) 73 = .ok (.iaload, 1) := by decide +kernel
theorem e47_73 {d : Nat} {l0 l1 l2 : Option Value} {s0 : Int32} {s1 : Nat} {σ : ab_St} {Q : Option Value → ab_St → Prop} : Ev d 47 73 [l0, l1, l2] [.int s0, .ref s1] σ Q = ((ab_k s1 = 100 ∧ ab_in s0 (ab_n s1)) ∧ Ev d 47 74 [l0, l1, l2] [.int (σ.1 s1 s0.toNatClampNeg)] σ Q) := ev_Hc (c := ab_k s1 = 100 ∧ ab_in s0 (ab_n s1)) d47_73 rfl rfl rfl rfl rfl rfl rfl rfl
theorem d47_74 : decode (ab_C 47) 74 = .ok (.ireturn, 1) := by decide +kernel
theorem e47_74 {d : Nat} {l0 l1 l2 : Option Value} {s0 : Int32} {σ : ab_St} {Q : Option Value → ab_St → Prop} : Ev d 47 74 [l0, l1, l2] [.int s0] σ Q = Q (some (.int s0)) σ := ev_E d47_74 rfl rfl rfl rfl rfl rfl rfl
/-! SaidLeast$Acts.remember(LSaidLeast$State;I)V -/
theorem d48_0 : decode (ab_C 48) 0 = .ok (.aload_n 0, 1) := by decide +kernel
theorem e48_0 {d : Nat} {l1 l2 l3 : Option Value} {x : Nat} {σ : ab_St} {Q : Option Value → ab_St → Prop} : Ev d 48 0 [some (.ref x), l1, l2, l3] [] σ Q = Ev d 48 1 [some (.ref x), l1, l2, l3] [.ref x] σ Q := ev_A1 d48_0 rfl
theorem d48_1 : decode (ab_C 48) 1 = .ok (.getfield 27, 3) := by decide +kernel
theorem e48_1 {d : Nat} {l0 l1 l2 l3 : Option Value} {s0 : Nat} {σ : ab_St} {Q : Option Value → ab_St → Prop} : Ev d 48 1 [l0, l1, l2, l3] [.ref s0] σ Q = (ab_k s0 = 5 ∧ Ev d 48 4 [l0, l1, l2, l3] [.int (σ.1 s0 6)] σ Q) := ev_Hc (c := ab_k s0 = 5) d48_1 rfl rfl rfl rfl rfl rfl rfl rfl
theorem d48_4 : decode (ab_C 48) 4 = .ok (.bipush 12, 2) := by decide +kernel
theorem e48_4 {d : Nat} {l0 l1 l2 l3 : Option Value} {s0 : Int32} {σ : ab_St} {Q : Option Value → ab_St → Prop} : Ev d 48 4 [l0, l1, l2, l3] [.int s0] σ Q = Ev d 48 6 [l0, l1, l2, l3] [.int 12, .int s0] σ Q := ev_A1 d48_4 rfl
theorem d48_6 : decode (ab_C 48) 6 = .ok (.if_icmp .ne 26, 3) := by decide +kernel
theorem e48_6 {d : Nat} {l0 l1 l2 l3 : Option Value} {s0 : Int32} {s1 : Int32} {σ : ab_St} {Q : Option Value → ab_St → Prop} : Ev d 48 6 [l0, l1, l2, l3] [.int s0, .int s1] σ Q = if s1 = s0 then Ev d 48 9 [l0, l1, l2, l3] [] σ Q else Ev d 48 32 [l0, l1, l2, l3] [] σ Q := ev_B (c := s1 = s0) d48_6 rfl rfl rfl rfl rfl
theorem d48_9 : decode (ab_C 48) 9 = .ok (.aload_n 0, 1) := by decide +kernel
theorem e48_9 {d : Nat} {l1 l2 l3 : Option Value} {x : Nat} {σ : ab_St} {Q : Option Value → ab_St → Prop} : Ev d 48 9 [some (.ref x), l1, l2, l3] [] σ Q = Ev d 48 10 [some (.ref x), l1, l2, l3] [.ref x] σ Q := ev_A1 d48_9 rfl
theorem d48_10 : decode (ab_C 48) 10 = .ok (.aload_n 0, 1) := by decide +kernel
theorem e48_10 {d : Nat} {l1 l2 l3 : Option Value} {x : Nat} {s0 : Nat} {σ : ab_St} {Q : Option Value → ab_St → Prop} : Ev d 48 10 [some (.ref x), l1, l2, l3] [.ref s0] σ Q = Ev d 48 11 [some (.ref x), l1, l2, l3] [.ref x, .ref s0] σ Q := ev_A1 d48_10 rfl
theorem d48_11 : decode (ab_C 48) 11 = .ok (.getfield 31, 3) := by decide +kernel
theorem e48_11 {d : Nat} {l0 l1 l2 l3 : Option Value} {s0 : Nat} {s1 : Nat} {σ : ab_St} {Q : Option Value → ab_St → Prop} : Ev d 48 11 [l0, l1, l2, l3] [.ref s0, .ref s1] σ Q = (ab_k s0 = 5 ∧ Ev d 48 14 [l0, l1, l2, l3] [.int (σ.1 s0 5), .ref s1] σ Q) := ev_Hc (c := ab_k s0 = 5) d48_11 rfl rfl rfl rfl rfl rfl rfl rfl
theorem d48_14 : decode (ab_C 48) 14 = .ok (.iconst 1, 1) := by decide +kernel
theorem e48_14 {d : Nat} {l0 l1 l2 l3 : Option Value} {s0 : Int32} {s1 : Nat} {σ : ab_St} {Q : Option Value → ab_St → Prop} : Ev d 48 14 [l0, l1, l2, l3] [.int s0, .ref s1] σ Q = Ev d 48 15 [l0, l1, l2, l3] [.int 1, .int s0, .ref s1] σ Q := ev_A1 d48_14 rfl
theorem d48_15 : decode (ab_C 48) 15 = .ok (.iadd, 1) := by decide +kernel
theorem e48_15 {d : Nat} {l0 l1 l2 l3 : Option Value} {s0 : Int32} {s1 : Int32} {s2 : Nat} {σ : ab_St} {Q : Option Value → ab_St → Prop} : Ev d 48 15 [l0, l1, l2, l3] [.int s0, .int s1, .ref s2] σ Q = Ev d 48 16 [l0, l1, l2, l3] [.int (s1 + s0), .ref s2] σ Q := ev_A2 d48_15 rfl rfl
theorem d48_16 : decode (ab_C 48) 16 = .ok (.bipush 12, 2) := by decide +kernel
theorem e48_16 {d : Nat} {l0 l1 l2 l3 : Option Value} {s0 : Int32} {s1 : Nat} {σ : ab_St} {Q : Option Value → ab_St → Prop} : Ev d 48 16 [l0, l1, l2, l3] [.int s0, .ref s1] σ Q = Ev d 48 18 [l0, l1, l2, l3] [.int 12, .int s0, .ref s1] σ Q := ev_A1 d48_16 rfl
theorem d48_18 : decode (ab_C 48) 18 = .ok (.irem, 1) := by decide +kernel
theorem e48_18 {d : Nat} {l0 l1 l2 l3 : Option Value} {s0 : Int32} {s1 : Int32} {s2 : Nat} {σ : ab_St} {Q : Option Value → ab_St → Prop} : Ev d 48 18 [l0, l1, l2, l3] [.int s0, .int s1, .ref s2] σ Q = (¬ s0 = 0 ∧ Ev d 48 19 [l0, l1, l2, l3] [.int (s1 - s1 / s0 * s0), .ref s2] σ Q) := ev_D (c := s0 = 0) d48_18 rfl rfl rfl rfl rfl rfl rfl rfl
theorem d48_19 : decode (ab_C 48) 19 = .ok (.putfield 31, 3) := by decide +kernel
theorem e48_19 {d : Nat} {l0 l1 l2 l3 : Option Value} {s0 : Int32} {s1 : Nat} {σ : ab_St} {Q : Option Value → ab_St → Prop} : Ev d 48 19 [l0, l1, l2, l3] [.int s0, .ref s1] σ Q = (ab_k s1 = 5 ∧ Ev d 48 22 [l0, l1, l2, l3] [] (ab_wI σ s1 (upd (σ.1 s1) 5 s0)) Q) := ev_Hc (c := ab_k s1 = 5) d48_19 rfl rfl rfl rfl rfl rfl rfl rfl
theorem d48_22 : decode (ab_C 48) 22 = .ok (.aload_n 0, 1) := by decide +kernel
theorem e48_22 {d : Nat} {l1 l2 l3 : Option Value} {x : Nat} {σ : ab_St} {Q : Option Value → ab_St → Prop} : Ev d 48 22 [some (.ref x), l1, l2, l3] [] σ Q = Ev d 48 23 [some (.ref x), l1, l2, l3] [.ref x] σ Q := ev_A1 d48_22 rfl
theorem d48_23 : decode (ab_C 48) 23 = .ok (.dup, 1) := by decide +kernel
theorem e48_23 {d : Nat} {l0 l1 l2 l3 : Option Value} {s0 : Nat} {σ : ab_St} {Q : Option Value → ab_St → Prop} : Ev d 48 23 [l0, l1, l2, l3] [.ref s0] σ Q = Ev d 48 24 [l0, l1, l2, l3] [.ref s0, .ref s0] σ Q := ev_A1 d48_23 rfl
theorem d48_24 : decode (ab_C 48) 24 = .ok (.getfield 27, 3) := by decide +kernel
theorem e48_24 {d : Nat} {l0 l1 l2 l3 : Option Value} {s0 : Nat} {s1 : Nat} {σ : ab_St} {Q : Option Value → ab_St → Prop} : Ev d 48 24 [l0, l1, l2, l3] [.ref s0, .ref s1] σ Q = (ab_k s0 = 5 ∧ Ev d 48 27 [l0, l1, l2, l3] [.int (σ.1 s0 6), .ref s1] σ Q) := ev_Hc (c := ab_k s0 = 5) d48_24 rfl rfl rfl rfl rfl rfl rfl rfl
theorem d48_27 : decode (ab_C 48) 27 = .ok (.iconst 1, 1) := by decide +kernel
theorem e48_27 {d : Nat} {l0 l1 l2 l3 : Option Value} {s0 : Int32} {s1 : Nat} {σ : ab_St} {Q : Option Value → ab_St → Prop} : Ev d 48 27 [l0, l1, l2, l3] [.int s0, .ref s1] σ Q = Ev d 48 28 [l0, l1, l2, l3] [.int 1, .int s0, .ref s1] σ Q := ev_A1 d48_27 rfl
theorem d48_28 : decode (ab_C 48) 28 = .ok (.isub, 1) := by decide +kernel
theorem e48_28 {d : Nat} {l0 l1 l2 l3 : Option Value} {s0 : Int32} {s1 : Int32} {s2 : Nat} {σ : ab_St} {Q : Option Value → ab_St → Prop} : Ev d 48 28 [l0, l1, l2, l3] [.int s0, .int s1, .ref s2] σ Q = Ev d 48 29 [l0, l1, l2, l3] [.int (s1 - s0), .ref s2] σ Q := ev_A2 d48_28 rfl rfl
theorem d48_29 : decode (ab_C 48) 29 = .ok (.putfield 27, 3) := by decide +kernel
theorem e48_29 {d : Nat} {l0 l1 l2 l3 : Option Value} {s0 : Int32} {s1 : Nat} {σ : ab_St} {Q : Option Value → ab_St → Prop} : Ev d 48 29 [l0, l1, l2, l3] [.int s0, .ref s1] σ Q = (ab_k s1 = 5 ∧ Ev d 48 32 [l0, l1, l2, l3] [] (ab_wI σ s1 (upd (σ.1 s1) 6 s0)) Q) := ev_Hc (c := ab_k s1 = 5) d48_29 rfl rfl rfl rfl rfl rfl rfl rfl
theorem d48_32 : decode (ab_C 48) 32 = .ok (.aload_n 0, 1) := by decide +kernel
theorem e48_32 {d : Nat} {l1 l2 l3 : Option Value} {x : Nat} {σ : ab_St} {Q : Option Value → ab_St → Prop} : Ev d 48 32 [some (.ref x), l1, l2, l3] [] σ Q = Ev d 48 33 [some (.ref x), l1, l2, l3] [.ref x] σ Q := ev_A1 d48_32 rfl
theorem d48_33 : decode (ab_C 48) 33 = .ok (.getfield 31, 3) := by decide +kernel
theorem e48_33 {d : Nat} {l0 l1 l2 l3 : Option Value} {s0 : Nat} {σ : ab_St} {Q : Option Value → ab_St → Prop} : Ev d 48 33 [l0, l1, l2, l3] [.ref s0] σ Q = (ab_k s0 = 5 ∧ Ev d 48 36 [l0, l1, l2, l3] [.int (σ.1 s0 5)] σ Q) := ev_Hc (c := ab_k s0 = 5) d48_33 rfl rfl rfl rfl rfl rfl rfl rfl
theorem d48_36 : decode (ab_C 48) 36 = .ok (.aload_n 0, 1) := by decide +kernel
theorem e48_36 {d : Nat} {l1 l2 l3 : Option Value} {x : Nat} {s0 : Int32} {σ : ab_St} {Q : Option Value → ab_St → Prop} : Ev d 48 36 [some (.ref x), l1, l2, l3] [.int s0] σ Q = Ev d 48 37 [some (.ref x), l1, l2, l3] [.ref x, .int s0] σ Q := ev_A1 d48_36 rfl
theorem d48_37 : decode (ab_C 48) 37 = .ok (.getfield 27, 3) := by decide +kernel
theorem e48_37 {d : Nat} {l0 l1 l2 l3 : Option Value} {s0 : Nat} {s1 : Int32} {σ : ab_St} {Q : Option Value → ab_St → Prop} : Ev d 48 37 [l0, l1, l2, l3] [.ref s0, .int s1] σ Q = (ab_k s0 = 5 ∧ Ev d 48 40 [l0, l1, l2, l3] [.int (σ.1 s0 6), .int s1] σ Q) := ev_Hc (c := ab_k s0 = 5) d48_37 rfl rfl rfl rfl rfl rfl rfl rfl
theorem d48_40 : decode (ab_C 48) 40 = .ok (.iadd, 1) := by decide +kernel
theorem e48_40 {d : Nat} {l0 l1 l2 l3 : Option Value} {s0 : Int32} {s1 : Int32} {σ : ab_St} {Q : Option Value → ab_St → Prop} : Ev d 48 40 [l0, l1, l2, l3] [.int s0, .int s1] σ Q = Ev d 48 41 [l0, l1, l2, l3] [.int (s1 + s0)] σ Q := ev_A2 d48_40 rfl rfl
theorem d48_41 : decode (ab_C 48) 41 = .ok (.bipush 12, 2) := by decide +kernel
theorem e48_41 {d : Nat} {l0 l1 l2 l3 : Option Value} {s0 : Int32} {σ : ab_St} {Q : Option Value → ab_St → Prop} : Ev d 48 41 [l0, l1, l2, l3] [.int s0] σ Q = Ev d 48 43 [l0, l1, l2, l3] [.int 12, .int s0] σ Q := ev_A1 d48_41 rfl
theorem d48_43 : decode (ab_C 48) 43 = .ok (.irem, 1) := by decide +kernel
theorem e48_43 {d : Nat} {l0 l1 l2 l3 : Option Value} {s0 : Int32} {s1 : Int32} {σ : ab_St} {Q : Option Value → ab_St → Prop} : Ev d 48 43 [l0, l1, l2, l3] [.int s0, .int s1] σ Q = (¬ s0 = 0 ∧ Ev d 48 44 [l0, l1, l2, l3] [.int (s1 - s1 / s0 * s0)] σ Q) := ev_D (c := s0 = 0) d48_43 rfl rfl rfl rfl rfl rfl rfl rfl
theorem d48_44 : decode (ab_C 48) 44 = .ok (.istore_n 3, 1) := by decide +kernel
theorem e48_44 {d : Nat} {l0 l1 l2 l3 : Option Value} {s0 : Int32} {σ : ab_St} {Q : Option Value → ab_St → Prop} : Ev d 48 44 [l0, l1, l2, l3] [.int s0] σ Q = Ev d 48 45 [l0, l1, l2, some (.int s0)] [] σ Q := ev_S d48_44 rfl rfl rfl rfl
theorem d48_45 : decode (ab_C 48) 45 = .ok (.aload_n 0, 1) := by decide +kernel
theorem e48_45 {d : Nat} {l1 l2 l3 : Option Value} {x : Nat} {σ : ab_St} {Q : Option Value → ab_St → Prop} : Ev d 48 45 [some (.ref x), l1, l2, l3] [] σ Q = Ev d 48 46 [some (.ref x), l1, l2, l3] [.ref x] σ Q := ev_A1 d48_45 rfl
theorem d48_46 : decode (ab_C 48) 46 = .ok (.getfield 9, 3) := by decide +kernel
theorem e48_46 {d : Nat} {l0 l1 l2 l3 : Option Value} {s0 : Nat} {σ : ab_St} {Q : Option Value → ab_St → Prop} : Ev d 48 46 [l0, l1, l2, l3] [.ref s0] σ Q = (ab_k s0 = 5 ∧ Ev d 48 49 [l0, l1, l2, l3] [.ref (ab_r s0 0)] σ Q) := ev_Hc (c := ab_k s0 = 5) d48_46 rfl rfl rfl rfl rfl rfl rfl rfl
theorem d48_49 : decode (ab_C 48) 49 = .ok (.iload_n 3, 1) := by decide +kernel
theorem e48_49 {d : Nat} {l0 l1 l2 : Option Value} {x : Int32} {s0 : Nat} {σ : ab_St} {Q : Option Value → ab_St → Prop} : Ev d 48 49 [l0, l1, l2, some (.int x)] [.ref s0] σ Q = Ev d 48 50 [l0, l1, l2, some (.int x)] [.int x, .ref s0] σ Q := ev_A1 d48_49 rfl
theorem d48_50 : decode (ab_C 48) 50 = .ok (.iload_n 2, 1) := by decide +kernel
theorem e48_50 {d : Nat} {l0 l1 l3 : Option Value} {x : Int32} {s0 : Int32} {s1 : Nat} {σ : ab_St} {Q : Option Value → ab_St → Prop} : Ev d 48 50 [l0, l1, some (.int x), l3] [.int s0, .ref s1] σ Q = Ev d 48 51 [l0, l1, some (.int x), l3] [.int x, .int s0, .ref s1] σ Q := ev_A1 d48_50 rfl
theorem d48_51 : decode (ab_C 48) 51 = .ok (.iastore, 1) := by decide +kernel
theorem e48_51 {d : Nat} {l0 l1 l2 l3 : Option Value} {s0 : Int32} {s1 : Int32} {s2 : Nat} {σ : ab_St} {Q : Option Value → ab_St → Prop} : Ev d 48 51 [l0, l1, l2, l3] [.int s0, .int s1, .ref s2] σ Q = ((ab_k s2 = 100 ∧ ab_in s1 (ab_n s2)) ∧ Ev d 48 52 [l0, l1, l2, l3] [] (ab_wI σ s2 (upd (σ.1 s2) s1.toNatClampNeg s0)) Q) := ev_Hc (c := ab_k s2 = 100 ∧ ab_in s1 (ab_n s2)) d48_51 rfl rfl rfl rfl rfl rfl rfl rfl
theorem d48_52 : decode (ab_C 48) 52 = .ok (.aload_n 0, 1) := by decide +kernel
theorem e48_52 {d : Nat} {l1 l2 l3 : Option Value} {x : Nat} {σ : ab_St} {Q : Option Value → ab_St → Prop} : Ev d 48 52 [some (.ref x), l1, l2, l3] [] σ Q = Ev d 48 53 [some (.ref x), l1, l2, l3] [.ref x] σ Q := ev_A1 d48_52 rfl
theorem d48_53 : decode (ab_C 48) 53 = .ok (.getfield 15, 3) := by decide +kernel
theorem e48_53 {d : Nat} {l0 l1 l2 l3 : Option Value} {s0 : Nat} {σ : ab_St} {Q : Option Value → ab_St → Prop} : Ev d 48 53 [l0, l1, l2, l3] [.ref s0] σ Q = (ab_k s0 = 5 ∧ Ev d 48 56 [l0, l1, l2, l3] [.ref (ab_r s0 1)] σ Q) := ev_Hc (c := ab_k s0 = 5) d48_53 rfl rfl rfl rfl rfl rfl rfl rfl
theorem d48_56 : decode (ab_C 48) 56 = .ok (.iload_n 3, 1) := by decide +kernel
theorem e48_56 {d : Nat} {l0 l1 l2 : Option Value} {x : Int32} {s0 : Nat} {σ : ab_St} {Q : Option Value → ab_St → Prop} : Ev d 48 56 [l0, l1, l2, some (.int x)] [.ref s0] σ Q = Ev d 48 57 [l0, l1, l2, some (.int x)] [.int x, .ref s0] σ Q := ev_A1 d48_56 rfl
theorem d48_57 : decode (ab_C 48) 57 = .ok (.aload_n 1, 1) := by decide +kernel
theorem e48_57 {d : Nat} {l0 l2 l3 : Option Value} {x : Nat} {s0 : Int32} {s1 : Nat} {σ : ab_St} {Q : Option Value → ab_St → Prop} : Ev d 48 57 [l0, some (.ref x), l2, l3] [.int s0, .ref s1] σ Q = Ev d 48 58 [l0, some (.ref x), l2, l3] [.ref x, .int s0, .ref s1] σ Q := ev_A1 d48_57 rfl
theorem d48_58 : decode (ab_C 48) 58 = .ok (.getfield 34, 3) := by decide +kernel
theorem e48_58 {d : Nat} {l0 l1 l2 l3 : Option Value} {s0 : Nat} {s1 : Int32} {s2 : Nat} {σ : ab_St} {Q : Option Value → ab_St → Prop} : Ev d 48 58 [l0, l1, l2, l3] [.ref s0, .int s1, .ref s2] σ Q = (ab_k s0 = 4 ∧ Ev d 48 61 [l0, l1, l2, l3] [.ref (ab_r s0 0), .int s1, .ref s2] σ Q) := ev_Hc (c := ab_k s0 = 4) d48_58 rfl rfl rfl rfl rfl rfl rfl rfl
theorem d48_61 : decode (ab_C 48) 61 = .ok (.iload_n 2, 1) := by decide +kernel
theorem e48_61 {d : Nat} {l0 l1 l3 : Option Value} {x : Int32} {s0 : Nat} {s1 : Int32} {s2 : Nat} {σ : ab_St} {Q : Option Value → ab_St → Prop} : Ev d 48 61 [l0, l1, some (.int x), l3] [.ref s0, .int s1, .ref s2] σ Q = Ev d 48 62 [l0, l1, some (.int x), l3] [.int x, .ref s0, .int s1, .ref s2] σ Q := ev_A1 d48_61 rfl
theorem d48_62 : decode (ab_C 48) 62 = .ok (.iaload, 1) := by decide +kernel
theorem e48_62 {d : Nat} {l0 l1 l2 l3 : Option Value} {s0 : Int32} {s1 : Nat} {s2 : Int32} {s3 : Nat} {σ : ab_St} {Q : Option Value → ab_St → Prop} : Ev d 48 62 [l0, l1, l2, l3] [.int s0, .ref s1, .int s2, .ref s3] σ Q = ((ab_k s1 = 100 ∧ ab_in s0 (ab_n s1)) ∧ Ev d 48 63 [l0, l1, l2, l3] [.int (σ.1 s1 s0.toNatClampNeg), .int s2, .ref s3] σ Q) := ev_Hc (c := ab_k s1 = 100 ∧ ab_in s0 (ab_n s1)) d48_62 rfl rfl rfl rfl rfl rfl rfl rfl
theorem d48_63 : decode (ab_C 48) 63 = .ok (.iastore, 1) := by decide +kernel
theorem e48_63 {d : Nat} {l0 l1 l2 l3 : Option Value} {s0 : Int32} {s1 : Int32} {s2 : Nat} {σ : ab_St} {Q : Option Value → ab_St → Prop} : Ev d 48 63 [l0, l1, l2, l3] [.int s0, .int s1, .ref s2] σ Q = ((ab_k s2 = 100 ∧ ab_in s1 (ab_n s2)) ∧ Ev d 48 64 [l0, l1, l2, l3] [] (ab_wI σ s2 (upd (σ.1 s2) s1.toNatClampNeg s0)) Q) := ev_Hc (c := ab_k s2 = 100 ∧ ab_in s1 (ab_n s2)) d48_63 rfl rfl rfl rfl rfl rfl rfl rfl
theorem d48_64 : decode (ab_C 48) 64 = .ok (.aload_n 0, 1) := by decide +kernel
theorem e48_64 {d : Nat} {l1 l2 l3 : Option Value} {x : Nat} {σ : ab_St} {Q : Option Value → ab_St → Prop} : Ev d 48 64 [some (.ref x), l1, l2, l3] [] σ Q = Ev d 48 65 [some (.ref x), l1, l2, l3] [.ref x] σ Q := ev_A1 d48_64 rfl
theorem d48_65 : decode (ab_C 48) 65 = .ok (.getfield 18, 3) := by decide +kernel
theorem e48_65 {d : Nat} {l0 l1 l2 l3 : Option Value} {s0 : Nat} {σ : ab_St} {Q : Option Value → ab_St → Prop} : Ev d 48 65 [l0, l1, l2, l3] [.ref s0] σ Q = (ab_k s0 = 5 ∧ Ev d 48 68 [l0, l1, l2, l3] [.ref (ab_r s0 2)] σ Q) := ev_Hc (c := ab_k s0 = 5) d48_65 rfl rfl rfl rfl rfl rfl rfl rfl
theorem d48_68 : decode (ab_C 48) 68 = .ok (.iload_n 3, 1) := by decide +kernel
theorem e48_68 {d : Nat} {l0 l1 l2 : Option Value} {x : Int32} {s0 : Nat} {σ : ab_St} {Q : Option Value → ab_St → Prop} : Ev d 48 68 [l0, l1, l2, some (.int x)] [.ref s0] σ Q = Ev d 48 69 [l0, l1, l2, some (.int x)] [.int x, .ref s0] σ Q := ev_A1 d48_68 rfl
theorem d48_69 : decode (ab_C 48) 69 = .ok (.aload_n 1, 1) := by decide +kernel
theorem e48_69 {d : Nat} {l0 l2 l3 : Option Value} {x : Nat} {s0 : Int32} {s1 : Nat} {σ : ab_St} {Q : Option Value → ab_St → Prop} : Ev d 48 69 [l0, some (.ref x), l2, l3] [.int s0, .ref s1] σ Q = Ev d 48 70 [l0, some (.ref x), l2, l3] [.ref x, .int s0, .ref s1] σ Q := ev_A1 d48_69 rfl
theorem d48_70 : decode (ab_C 48) 70 = .ok (.getfield 37, 3) := by decide +kernel
theorem e48_70 {d : Nat} {l0 l1 l2 l3 : Option Value} {s0 : Nat} {s1 : Int32} {s2 : Nat} {σ : ab_St} {Q : Option Value → ab_St → Prop} : Ev d 48 70 [l0, l1, l2, l3] [.ref s0, .int s1, .ref s2] σ Q = (ab_k s0 = 4 ∧ Ev d 48 73 [l0, l1, l2, l3] [.int (σ.1 s0 1), .int s1, .ref s2] σ Q) := ev_Hc (c := ab_k s0 = 4) d48_70 rfl rfl rfl rfl rfl rfl rfl rfl
theorem d48_73 : decode (ab_C 48) 73 = .ok (.iastore, 1) := by decide +kernel
theorem e48_73 {d : Nat} {l0 l1 l2 l3 : Option Value} {s0 : Int32} {s1 : Int32} {s2 : Nat} {σ : ab_St} {Q : Option Value → ab_St → Prop} : Ev d 48 73 [l0, l1, l2, l3] [.int s0, .int s1, .ref s2] σ Q = ((ab_k s2 = 100 ∧ ab_in s1 (ab_n s2)) ∧ Ev d 48 74 [l0, l1, l2, l3] [] (ab_wI σ s2 (upd (σ.1 s2) s1.toNatClampNeg s0)) Q) := ev_Hc (c := ab_k s2 = 100 ∧ ab_in s1 (ab_n s2)) d48_73 rfl rfl rfl rfl rfl rfl rfl rfl
theorem d48_74 : decode (ab_C 48) 74 = .ok (.aload_n 0, 1) := by decide +kernel
theorem e48_74 {d : Nat} {l1 l2 l3 : Option Value} {x : Nat} {σ : ab_St} {Q : Option Value → ab_St → Prop} : Ev d 48 74 [some (.ref x), l1, l2, l3] [] σ Q = Ev d 48 75 [some (.ref x), l1, l2, l3] [.ref x] σ Q := ev_A1 d48_74 rfl
theorem d48_75 : decode (ab_C 48) 75 = .ok (.getfield 21, 3) := by decide +kernel
theorem e48_75 {d : Nat} {l0 l1 l2 l3 : Option Value} {s0 : Nat} {σ : ab_St} {Q : Option Value → ab_St → Prop} : Ev d 48 75 [l0, l1, l2, l3] [.ref s0] σ Q = (ab_k s0 = 5 ∧ Ev d 48 78 [l0, l1, l2, l3] [.ref (ab_r s0 3)] σ Q) := ev_Hc (c := ab_k s0 = 5) d48_75 rfl rfl rfl rfl rfl rfl rfl rfl
theorem d48_78 : decode (ab_C 48) 78 = .ok (.iload_n 3, 1) := by decide +kernel
theorem e48_78 {d : Nat} {l0 l1 l2 : Option Value} {x : Int32} {s0 : Nat} {σ : ab_St} {Q : Option Value → ab_St → Prop} : Ev d 48 78 [l0, l1, l2, some (.int x)] [.ref s0] σ Q = Ev d 48 79 [l0, l1, l2, some (.int x)] [.int x, .ref s0] σ Q := ev_A1 d48_78 rfl
theorem d48_79 : decode (ab_C 48) 79 = .ok (.aload_n 1, 1) := by decide +kernel
theorem e48_79 {d : Nat} {l0 l2 l3 : Option Value} {x : Nat} {s0 : Int32} {s1 : Nat} {σ : ab_St} {Q : Option Value → ab_St → Prop} : Ev d 48 79 [l0, some (.ref x), l2, l3] [.int s0, .ref s1] σ Q = Ev d 48 80 [l0, some (.ref x), l2, l3] [.ref x, .int s0, .ref s1] σ Q := ev_A1 d48_79 rfl
theorem d48_80 : decode (ab_C 48) 80 = .ok (.getfield 39, 3) := by decide +kernel
theorem e48_80 {d : Nat} {l0 l1 l2 l3 : Option Value} {s0 : Nat} {s1 : Int32} {s2 : Nat} {σ : ab_St} {Q : Option Value → ab_St → Prop} : Ev d 48 80 [l0, l1, l2, l3] [.ref s0, .int s1, .ref s2] σ Q = (ab_k s0 = 4 ∧ Ev d 48 83 [l0, l1, l2, l3] [.int (σ.1 s0 2), .int s1, .ref s2] σ Q) := ev_Hc (c := ab_k s0 = 4) d48_80 rfl rfl rfl rfl rfl rfl rfl rfl
theorem d48_83 : decode (ab_C 48) 83 = .ok (.iastore, 1) := by decide +kernel
theorem e48_83 {d : Nat} {l0 l1 l2 l3 : Option Value} {s0 : Int32} {s1 : Int32} {s2 : Nat} {σ : ab_St} {Q : Option Value → ab_St → Prop} : Ev d 48 83 [l0, l1, l2, l3] [.int s0, .int s1, .ref s2] σ Q = ((ab_k s2 = 100 ∧ ab_in s1 (ab_n s2)) ∧ Ev d 48 84 [l0, l1, l2, l3] [] (ab_wI σ s2 (upd (σ.1 s2) s1.toNatClampNeg s0)) Q) := ev_Hc (c := ab_k s2 = 100 ∧ ab_in s1 (ab_n s2)) d48_83 rfl rfl rfl rfl rfl rfl rfl rfl
theorem d48_84 : decode (ab_C 48) 84 = .ok (.aload_n 0, 1) := by decide +kernel
theorem e48_84 {d : Nat} {l1 l2 l3 : Option Value} {x : Nat} {σ : ab_St} {Q : Option Value → ab_St → Prop} : Ev d 48 84 [some (.ref x), l1, l2, l3] [] σ Q = Ev d 48 85 [some (.ref x), l1, l2, l3] [.ref x] σ Q := ev_A1 d48_84 rfl
theorem d48_85 : decode (ab_C 48) 85 = .ok (.getfield 24, 3) := by decide +kernel
theorem e48_85 {d : Nat} {l0 l1 l2 l3 : Option Value} {s0 : Nat} {σ : ab_St} {Q : Option Value → ab_St → Prop} : Ev d 48 85 [l0, l1, l2, l3] [.ref s0] σ Q = (ab_k s0 = 5 ∧ Ev d 48 88 [l0, l1, l2, l3] [.ref (ab_r s0 4)] σ Q) := ev_Hc (c := ab_k s0 = 5) d48_85 rfl rfl rfl rfl rfl rfl rfl rfl
theorem d48_88 : decode (ab_C 48) 88 = .ok (.iload_n 3, 1) := by decide +kernel
theorem e48_88 {d : Nat} {l0 l1 l2 : Option Value} {x : Int32} {s0 : Nat} {σ : ab_St} {Q : Option Value → ab_St → Prop} : Ev d 48 88 [l0, l1, l2, some (.int x)] [.ref s0] σ Q = Ev d 48 89 [l0, l1, l2, some (.int x)] [.int x, .ref s0] σ Q := ev_A1 d48_88 rfl
theorem d48_89 : decode (ab_C 48) 89 = .ok (.aload_n 1, 1) := by decide +kernel
theorem e48_89 {d : Nat} {l0 l2 l3 : Option Value} {x : Nat} {s0 : Int32} {s1 : Nat} {σ : ab_St} {Q : Option Value → ab_St → Prop} : Ev d 48 89 [l0, some (.ref x), l2, l3] [.int s0, .ref s1] σ Q = Ev d 48 90 [l0, some (.ref x), l2, l3] [.ref x, .int s0, .ref s1] σ Q := ev_A1 d48_89 rfl
theorem d48_90 : decode (ab_C 48) 90 = .ok (.getfield 41, 3) := by decide +kernel
theorem e48_90 {d : Nat} {l0 l1 l2 l3 : Option Value} {s0 : Nat} {s1 : Int32} {s2 : Nat} {σ : ab_St} {Q : Option Value → ab_St → Prop} : Ev d 48 90 [l0, l1, l2, l3] [.ref s0, .int s1, .ref s2] σ Q = (ab_k s0 = 4 ∧ Ev d 48 93 [l0, l1, l2, l3] [.int (σ.1 s0 3), .int s1, .ref s2] σ Q) := ev_Hc (c := ab_k s0 = 4) d48_90 rfl rfl rfl rfl rfl rfl rfl rfl
theorem d48_93 : decode (ab_C 48) 93 = .ok (.iastore, 1) := by decide +kernel
theorem e48_93 {d : Nat} {l0 l1 l2 l3 : Option Value} {s0 : Int32} {s1 : Int32} {s2 : Nat} {σ : ab_St} {Q : Option Value → ab_St → Prop} : Ev d 48 93 [l0, l1, l2, l3] [.int s0, .int s1, .ref s2] σ Q = ((ab_k s2 = 100 ∧ ab_in s1 (ab_n s2)) ∧ Ev d 48 94 [l0, l1, l2, l3] [] (ab_wI σ s2 (upd (σ.1 s2) s1.toNatClampNeg s0)) Q) := ev_Hc (c := ab_k s2 = 100 ∧ ab_in s1 (ab_n s2)) d48_93 rfl rfl rfl rfl rfl rfl rfl rfl
theorem d48_94 : decode (ab_C 48) 94 = .ok (.aload_n 0, 1) := by decide +kernel
theorem e48_94 {d : Nat} {l1 l2 l3 : Option Value} {x : Nat} {σ : ab_St} {Q : Option Value → ab_St → Prop} : Ev d 48 94 [some (.ref x), l1, l2, l3] [] σ Q = Ev d 48 95 [some (.ref x), l1, l2, l3] [.ref x] σ Q := ev_A1 d48_94 rfl
theorem d48_95 : decode (ab_C 48) 95 = .ok (.dup, 1) := by decide +kernel
theorem e48_95 {d : Nat} {l0 l1 l2 l3 : Option Value} {s0 : Nat} {σ : ab_St} {Q : Option Value → ab_St → Prop} : Ev d 48 95 [l0, l1, l2, l3] [.ref s0] σ Q = Ev d 48 96 [l0, l1, l2, l3] [.ref s0, .ref s0] σ Q := ev_A1 d48_95 rfl
theorem d48_96 : decode (ab_C 48) 96 = .ok (.getfield 27, 3) := by decide +kernel
theorem e48_96 {d : Nat} {l0 l1 l2 l3 : Option Value} {s0 : Nat} {s1 : Nat} {σ : ab_St} {Q : Option Value → ab_St → Prop} : Ev d 48 96 [l0, l1, l2, l3] [.ref s0, .ref s1] σ Q = (ab_k s0 = 5 ∧ Ev d 48 99 [l0, l1, l2, l3] [.int (σ.1 s0 6), .ref s1] σ Q) := ev_Hc (c := ab_k s0 = 5) d48_96 rfl rfl rfl rfl rfl rfl rfl rfl
theorem d48_99 : decode (ab_C 48) 99 = .ok (.iconst 1, 1) := by decide +kernel
theorem e48_99 {d : Nat} {l0 l1 l2 l3 : Option Value} {s0 : Int32} {s1 : Nat} {σ : ab_St} {Q : Option Value → ab_St → Prop} : Ev d 48 99 [l0, l1, l2, l3] [.int s0, .ref s1] σ Q = Ev d 48 100 [l0, l1, l2, l3] [.int 1, .int s0, .ref s1] σ Q := ev_A1 d48_99 rfl
theorem d48_100 : decode (ab_C 48) 100 = .ok (.iadd, 1) := by decide +kernel
theorem e48_100 {d : Nat} {l0 l1 l2 l3 : Option Value} {s0 : Int32} {s1 : Int32} {s2 : Nat} {σ : ab_St} {Q : Option Value → ab_St → Prop} : Ev d 48 100 [l0, l1, l2, l3] [.int s0, .int s1, .ref s2] σ Q = Ev d 48 101 [l0, l1, l2, l3] [.int (s1 + s0), .ref s2] σ Q := ev_A2 d48_100 rfl rfl
theorem d48_101 : decode (ab_C 48) 101 = .ok (.putfield 27, 3) := by decide +kernel
theorem e48_101 {d : Nat} {l0 l1 l2 l3 : Option Value} {s0 : Int32} {s1 : Nat} {σ : ab_St} {Q : Option Value → ab_St → Prop} : Ev d 48 101 [l0, l1, l2, l3] [.int s0, .ref s1] σ Q = (ab_k s1 = 5 ∧ Ev d 48 104 [l0, l1, l2, l3] [] (ab_wI σ s1 (upd (σ.1 s1) 6 s0)) Q) := ev_Hc (c := ab_k s1 = 5) d48_101 rfl rfl rfl rfl rfl rfl rfl rfl
theorem d48_104 : decode (ab_C 48) 104 = .ok (.return_, 1) := by decide +kernel
theorem e48_104 {d : Nat} {l0 l1 l2 l3 : Option Value} {σ : ab_St} {Q : Option Value → ab_St → Prop} : Ev d 48 104 [l0, l1, l2, l3] [] σ Q = Q none σ := ev_E d48_104 rfl rfl rfl rfl rfl rfl rfl
/-! SaidLeast$State.utter(LSaidLeast$Told;I)V -/
theorem d49_0 : decode (ab_C 49) 0 = .ok (.aload_n 0, 1) := by decide +kernel
theorem e49_0 {d : Nat} {l1 l2 : Option Value} {x : Nat} {σ : ab_St} {Q : Option Value → ab_St → Prop} : Ev d 49 0 [some (.ref x), l1, l2] [] σ Q = Ev d 49 1 [some (.ref x), l1, l2] [.ref x] σ Q := ev_A1 d49_0 rfl
theorem d49_1 : decode (ab_C 49) 1 = .ok (.getfield 9, 3) := by decide +kernel
theorem e49_1 {d : Nat} {l0 l1 l2 : Option Value} {s0 : Nat} {σ : ab_St} {Q : Option Value → ab_St → Prop} : Ev d 49 1 [l0, l1, l2] [.ref s0] σ Q = (ab_k s0 = 4 ∧ Ev d 49 4 [l0, l1, l2] [.ref (ab_r s0 0)] σ Q) := ev_Hc (c := ab_k s0 = 4) d49_1 rfl rfl rfl rfl rfl rfl rfl rfl
theorem d49_4 : decode (ab_C 49) 4 = .ok (.aload_n 1, 1) := by decide +kernel
theorem e49_4 {d : Nat} {l0 l2 : Option Value} {x : Nat} {s0 : Nat} {σ : ab_St} {Q : Option Value → ab_St → Prop} : Ev d 49 4 [l0, some (.ref x), l2] [.ref s0] σ Q = Ev d 49 5 [l0, some (.ref x), l2] [.ref x, .ref s0] σ Q := ev_A1 d49_4 rfl
theorem d49_5 : decode (ab_C 49) 5 = .ok (.getfield 60, 3) := by decide +kernel
theorem e49_5 {d : Nat} {l0 l1 l2 : Option Value} {s0 : Nat} {s1 : Nat} {σ : ab_St} {Q : Option Value → ab_St → Prop} : Ev d 49 5 [l0, l1, l2] [.ref s0, .ref s1] σ Q = (ab_k s0 = 3 ∧ Ev d 49 8 [l0, l1, l2] [.ref (ab_r s0 0), .ref s1] σ Q) := ev_Hc (c := ab_k s0 = 3) d49_5 rfl rfl rfl rfl rfl rfl rfl rfl
theorem d49_8 : decode (ab_C 49) 8 = .ok (.iload_n 2, 1) := by decide +kernel
theorem e49_8 {d : Nat} {l0 l1 : Option Value} {x : Int32} {s0 : Nat} {s1 : Nat} {σ : ab_St} {Q : Option Value → ab_St → Prop} : Ev d 49 8 [l0, l1, some (.int x)] [.ref s0, .ref s1] σ Q = Ev d 49 9 [l0, l1, some (.int x)] [.int x, .ref s0, .ref s1] σ Q := ev_A1 d49_8 rfl
theorem d49_9 : decode (ab_C 49) 9 = .ok (.iaload, 1) := by decide +kernel
theorem e49_9 {d : Nat} {l0 l1 l2 : Option Value} {s0 : Int32} {s1 : Nat} {s2 : Nat} {σ : ab_St} {Q : Option Value → ab_St → Prop} : Ev d 49 9 [l0, l1, l2] [.int s0, .ref s1, .ref s2] σ Q = ((ab_k s1 = 100 ∧ ab_in s0 (ab_n s1)) ∧ Ev d 49 10 [l0, l1, l2] [.int (σ.1 s1 s0.toNatClampNeg), .ref s2] σ Q) := ev_Hc (c := ab_k s1 = 100 ∧ ab_in s0 (ab_n s1)) d49_9 rfl rfl rfl rfl rfl rfl rfl rfl
theorem d49_10 : decode (ab_C 49) 10 = .ok (.dup2, 1) := by decide +kernel
theorem e49_10 {d : Nat} {l0 l1 l2 : Option Value} {s0 : Int32} {s1 : Nat} {σ : ab_St} {Q : Option Value → ab_St → Prop} : Ev d 49 10 [l0, l1, l2] [.int s0, .ref s1] σ Q = Ev d 49 11 [l0, l1, l2] [.int s0, .ref s1, .int s0, .ref s1] σ Q := ev_A1 d49_10 rfl
theorem d49_11 : decode (ab_C 49) 11 = .ok (.iaload, 1) := by decide +kernel
theorem e49_11 {d : Nat} {l0 l1 l2 : Option Value} {s0 : Int32} {s1 : Nat} {s2 : Int32} {s3 : Nat} {σ : ab_St} {Q : Option Value → ab_St → Prop} : Ev d 49 11 [l0, l1, l2] [.int s0, .ref s1, .int s2, .ref s3] σ Q = ((ab_k s1 = 100 ∧ ab_in s0 (ab_n s1)) ∧ Ev d 49 12 [l0, l1, l2] [.int (σ.1 s1 s0.toNatClampNeg), .int s2, .ref s3] σ Q) := ev_Hc (c := ab_k s1 = 100 ∧ ab_in s0 (ab_n s1)) d49_11 rfl rfl rfl rfl rfl rfl rfl rfl
theorem d49_12 : decode (ab_C 49) 12 = .ok (.aload_n 1, 1) := by decide +kernel
theorem e49_12 {d : Nat} {l0 l2 : Option Value} {x : Nat} {s0 : Int32} {s1 : Int32} {s2 : Nat} {σ : ab_St} {Q : Option Value → ab_St → Prop} : Ev d 49 12 [l0, some (.ref x), l2] [.int s0, .int s1, .ref s2] σ Q = Ev d 49 13 [l0, some (.ref x), l2] [.ref x, .int s0, .int s1, .ref s2] σ Q := ev_A1 d49_12 rfl
theorem d49_13 : decode (ab_C 49) 13 = .ok (.getfield 71, 3) := by decide +kernel
theorem e49_13 {d : Nat} {l0 l1 l2 : Option Value} {s0 : Nat} {s1 : Int32} {s2 : Int32} {s3 : Nat} {σ : ab_St} {Q : Option Value → ab_St → Prop} : Ev d 49 13 [l0, l1, l2] [.ref s0, .int s1, .int s2, .ref s3] σ Q = (ab_k s0 = 3 ∧ Ev d 49 16 [l0, l1, l2] [.ref (ab_r s0 1), .int s1, .int s2, .ref s3] σ Q) := ev_Hc (c := ab_k s0 = 3) d49_13 rfl rfl rfl rfl rfl rfl rfl rfl
theorem d49_16 : decode (ab_C 49) 16 = .ok (.iload_n 2, 1) := by decide +kernel
theorem e49_16 {d : Nat} {l0 l1 : Option Value} {x : Int32} {s0 : Nat} {s1 : Int32} {s2 : Int32} {s3 : Nat} {σ : ab_St} {Q : Option Value → ab_St → Prop} : Ev d 49 16 [l0, l1, some (.int x)] [.ref s0, .int s1, .int s2, .ref s3] σ Q = Ev d 49 17 [l0, l1, some (.int x)] [.int x, .ref s0, .int s1, .int s2, .ref s3] σ Q := ev_A1 d49_16 rfl
theorem d49_17 : decode (ab_C 49) 17 = .ok (.iaload, 1) := by decide +kernel
theorem e49_17 {d : Nat} {l0 l1 l2 : Option Value} {s0 : Int32} {s1 : Nat} {s2 : Int32} {s3 : Int32} {s4 : Nat} {σ : ab_St} {Q : Option Value → ab_St → Prop} : Ev d 49 17 [l0, l1, l2] [.int s0, .ref s1, .int s2, .int s3, .ref s4] σ Q = ((ab_k s1 = 100 ∧ ab_in s0 (ab_n s1)) ∧ Ev d 49 18 [l0, l1, l2] [.int (σ.1 s1 s0.toNatClampNeg), .int s2, .int s3, .ref s4] σ Q) := ev_Hc (c := ab_k s1 = 100 ∧ ab_in s0 (ab_n s1)) d49_17 rfl rfl rfl rfl rfl rfl rfl rfl
theorem d49_18 : decode (ab_C 49) 18 = .ok (.iadd, 1) := by decide +kernel
theorem e49_18 {d : Nat} {l0 l1 l2 : Option Value} {s0 : Int32} {s1 : Int32} {s2 : Int32} {s3 : Nat} {σ : ab_St} {Q : Option Value → ab_St → Prop} : Ev d 49 18 [l0, l1, l2] [.int s0, .int s1, .int s2, .ref s3] σ Q = Ev d 49 19 [l0, l1, l2] [.int (s1 + s0), .int s2, .ref s3] σ Q := ev_A2 d49_18 rfl rfl
theorem d49_19 : decode (ab_C 49) 19 = .ok (.iastore, 1) := by decide +kernel
theorem e49_19 {d : Nat} {l0 l1 l2 : Option Value} {s0 : Int32} {s1 : Int32} {s2 : Nat} {σ : ab_St} {Q : Option Value → ab_St → Prop} : Ev d 49 19 [l0, l1, l2] [.int s0, .int s1, .ref s2] σ Q = ((ab_k s2 = 100 ∧ ab_in s1 (ab_n s2)) ∧ Ev d 49 20 [l0, l1, l2] [] (ab_wI σ s2 (upd (σ.1 s2) s1.toNatClampNeg s0)) Q) := ev_Hc (c := ab_k s2 = 100 ∧ ab_in s1 (ab_n s2)) d49_19 rfl rfl rfl rfl rfl rfl rfl rfl
theorem d49_20 : decode (ab_C 49) 20 = .ok (.aload_n 0, 1) := by decide +kernel
theorem e49_20 {d : Nat} {l1 l2 : Option Value} {x : Nat} {σ : ab_St} {Q : Option Value → ab_St → Prop} : Ev d 49 20 [some (.ref x), l1, l2] [] σ Q = Ev d 49 21 [some (.ref x), l1, l2] [.ref x] σ Q := ev_A1 d49_20 rfl
theorem d49_21 : decode (ab_C 49) 21 = .ok (.dup, 1) := by decide +kernel
theorem e49_21 {d : Nat} {l0 l1 l2 : Option Value} {s0 : Nat} {σ : ab_St} {Q : Option Value → ab_St → Prop} : Ev d 49 21 [l0, l1, l2] [.ref s0] σ Q = Ev d 49 22 [l0, l1, l2] [.ref s0, .ref s0] σ Q := ev_A1 d49_21 rfl
theorem d49_22 : decode (ab_C 49) 22 = .ok (.getfield 28, 3) := by decide +kernel
theorem e49_22 {d : Nat} {l0 l1 l2 : Option Value} {s0 : Nat} {s1 : Nat} {σ : ab_St} {Q : Option Value → ab_St → Prop} : Ev d 49 22 [l0, l1, l2] [.ref s0, .ref s1] σ Q = (ab_k s0 = 4 ∧ Ev d 49 25 [l0, l1, l2] [.int (σ.1 s0 2), .ref s1] σ Q) := ev_Hc (c := ab_k s0 = 4) d49_22 rfl rfl rfl rfl rfl rfl rfl rfl
theorem d49_25 : decode (ab_C 49) 25 = .ok (.iconst 1, 1) := by decide +kernel
theorem e49_25 {d : Nat} {l0 l1 l2 : Option Value} {s0 : Int32} {s1 : Nat} {σ : ab_St} {Q : Option Value → ab_St → Prop} : Ev d 49 25 [l0, l1, l2] [.int s0, .ref s1] σ Q = Ev d 49 26 [l0, l1, l2] [.int 1, .int s0, .ref s1] σ Q := ev_A1 d49_25 rfl
theorem d49_26 : decode (ab_C 49) 26 = .ok (.iload_n 2, 1) := by decide +kernel
theorem e49_26 {d : Nat} {l0 l1 : Option Value} {x : Int32} {s0 : Int32} {s1 : Int32} {s2 : Nat} {σ : ab_St} {Q : Option Value → ab_St → Prop} : Ev d 49 26 [l0, l1, some (.int x)] [.int s0, .int s1, .ref s2] σ Q = Ev d 49 27 [l0, l1, some (.int x)] [.int x, .int s0, .int s1, .ref s2] σ Q := ev_A1 d49_26 rfl
theorem d49_27 : decode (ab_C 49) 27 = .ok (.ishl, 1) := by decide +kernel
theorem e49_27 {d : Nat} {l0 l1 l2 : Option Value} {s0 : Int32} {s1 : Int32} {s2 : Int32} {s3 : Nat} {σ : ab_St} {Q : Option Value → ab_St → Prop} : Ev d 49 27 [l0, l1, l2] [.int s0, .int s1, .int s2, .ref s3] σ Q = Ev d 49 28 [l0, l1, l2] [.int (s1 <<< (s0 &&& 31)), .int s2, .ref s3] σ Q := ev_A2 d49_27 rfl rfl
theorem d49_28 : decode (ab_C 49) 28 = .ok (.ior, 1) := by decide +kernel
theorem e49_28 {d : Nat} {l0 l1 l2 : Option Value} {s0 : Int32} {s1 : Int32} {s2 : Nat} {σ : ab_St} {Q : Option Value → ab_St → Prop} : Ev d 49 28 [l0, l1, l2] [.int s0, .int s1, .ref s2] σ Q = Ev d 49 29 [l0, l1, l2] [.int (s1 ||| s0), .ref s2] σ Q := ev_A2 d49_28 rfl rfl
theorem d49_29 : decode (ab_C 49) 29 = .ok (.putfield 28, 3) := by decide +kernel
theorem e49_29 {d : Nat} {l0 l1 l2 : Option Value} {s0 : Int32} {s1 : Nat} {σ : ab_St} {Q : Option Value → ab_St → Prop} : Ev d 49 29 [l0, l1, l2] [.int s0, .ref s1] σ Q = (ab_k s1 = 4 ∧ Ev d 49 32 [l0, l1, l2] [] (ab_wI σ s1 (upd (σ.1 s1) 2 s0)) Q) := ev_Hc (c := ab_k s1 = 4) d49_29 rfl rfl rfl rfl rfl rfl rfl rfl
theorem d49_32 : decode (ab_C 49) 32 = .ok (.aload_n 0, 1) := by decide +kernel
theorem e49_32 {d : Nat} {l1 l2 : Option Value} {x : Nat} {σ : ab_St} {Q : Option Value → ab_St → Prop} : Ev d 49 32 [some (.ref x), l1, l2] [] σ Q = Ev d 49 33 [some (.ref x), l1, l2] [.ref x] σ Q := ev_A1 d49_32 rfl
theorem d49_33 : decode (ab_C 49) 33 = .ok (.iload_n 2, 1) := by decide +kernel
theorem e49_33 {d : Nat} {l0 l1 : Option Value} {x : Int32} {s0 : Nat} {σ : ab_St} {Q : Option Value → ab_St → Prop} : Ev d 49 33 [l0, l1, some (.int x)] [.ref s0] σ Q = Ev d 49 34 [l0, l1, some (.int x)] [.int x, .ref s0] σ Q := ev_A1 d49_33 rfl
theorem d49_34 : decode (ab_C 49) 34 = .ok (.putfield 15, 3) := by decide +kernel
theorem e49_34 {d : Nat} {l0 l1 l2 : Option Value} {s0 : Int32} {s1 : Nat} {σ : ab_St} {Q : Option Value → ab_St → Prop} : Ev d 49 34 [l0, l1, l2] [.int s0, .ref s1] σ Q = (ab_k s1 = 4 ∧ Ev d 49 37 [l0, l1, l2] [] (ab_wI σ s1 (upd (σ.1 s1) 3 s0)) Q) := ev_Hc (c := ab_k s1 = 4) d49_34 rfl rfl rfl rfl rfl rfl rfl rfl
theorem d49_37 : decode (ab_C 49) 37 = .ok (.return_, 1) := by decide +kernel
theorem e49_37 {d : Nat} {l0 l1 l2 : Option Value} {σ : ab_St} {Q : Option Value → ab_St → Prop} : Ev d 49 37 [l0, l1, l2] [] σ Q = Q none σ := ev_E d49_37 rfl rfl rfl rfl rfl rfl rfl
/-! SaidLeast.talk(II)I -/
theorem d50_0 : decode (ab_C 50) 0 = .ok (.aload_n 0, 1) := by decide +kernel
theorem e50_0 {d : Nat} {l1 l2 : Option Value} {x : Nat} {σ : ab_St} {Q : Option Value → ab_St → Prop} : Ev d 50 0 [some (.ref x), l1, l2] [] σ Q = Ev d 50 1 [some (.ref x), l1, l2] [.ref x] σ Q := ev_A1 d50_0 rfl
theorem d50_1 : decode (ab_C 50) 1 = .ok (.getfield 26, 3) := by decide +kernel
theorem e50_1 {d : Nat} {l0 l1 l2 : Option Value} {s0 : Nat} {σ : ab_St} {Q : Option Value → ab_St → Prop} : Ev d 50 1 [l0, l1, l2] [.ref s0] σ Q = (ab_k s0 = 0 ∧ Ev d 50 4 [l0, l1, l2] [.ref (ab_r s0 2)] σ Q) := ev_Hc (c := ab_k s0 = 0) d50_1 rfl rfl rfl rfl rfl rfl rfl rfl
theorem d50_4 : decode (ab_C 50) 4 = .ok (.iload_n 1, 1) := by decide +kernel
theorem e50_4 {d : Nat} {l0 l2 : Option Value} {x : Int32} {s0 : Nat} {σ : ab_St} {Q : Option Value → ab_St → Prop} : Ev d 50 4 [l0, some (.int x), l2] [.ref s0] σ Q = Ev d 50 5 [l0, some (.int x), l2] [.int x, .ref s0] σ Q := ev_A1 d50_4 rfl
theorem d50_5 : decode (ab_C 50) 5 = .ok (.invokevirtual 133, 3) := by decide +kernel
theorem e50_5 {d : Nat} {l0 l1 l2 : Option Value} {s0 : Int32} {s1 : Nat} {σ : ab_St} {Q : Option Value → ab_St → Prop} : Ev (d + 1) 50 5 [l0, l1, l2] [.int s0, .ref s1] σ Q = (ab_k s1 = 3 ∧ Ev d 26 0 [some (.ref s1), some (.int s0)] [] σ (fun r σ2 => Ev (d + 1) 50 8 [l0, l1, l2] (r.toList ++ []) σ2 Q)) := ev_KV (b := s1) (ls := [l0, l1, l2]) (st := [.int s0, .ref s1]) (as := [.int s0]) (rest := []) d50_5 rfl rfl rfl (Nat.le_of_ble_eq_true rfl) (Nat.le_of_ble_eq_true rfl) (Nat.le_of_ble_eq_true rfl) rfl rfl rfl rfl rfl rfl rfl
theorem d50_8 : decode (ab_C 50) 8 = .ok (.ifCond .ne 5, 3) := by decide +kernel
theorem e50_8 {d : Nat} {l0 l1 l2 : Option Value} {s0 : Int32} {σ : ab_St} {Q : Option Value → ab_St → Prop} : Ev d 50 8 [l0, l1, l2] [.int s0] σ Q = if s0 = 0 then Ev d 50 11 [l0, l1, l2] [] σ Q else Ev d 50 13 [l0, l1, l2] [] σ Q := ev_B (c := s0 = 0) d50_8 rfl rfl rfl rfl rfl
theorem d50_11 : decode (ab_C 50) 11 = .ok (.iconst (-1), 1) := by decide +kernel
theorem e50_11 {d : Nat} {l0 l1 l2 : Option Value} {σ : ab_St} {Q : Option Value → ab_St → Prop} : Ev d 50 11 [l0, l1, l2] [] σ Q = Ev d 50 12 [l0, l1, l2] [.int (-1)] σ Q := ev_A1 d50_11 rfl
theorem d50_12 : decode (ab_C 50) 12 = .ok (.ireturn, 1) := by decide +kernel
theorem e50_12 {d : Nat} {l0 l1 l2 : Option Value} {s0 : Int32} {σ : ab_St} {Q : Option Value → ab_St → Prop} : Ev d 50 12 [l0, l1, l2] [.int s0] σ Q = Q (some (.int s0)) σ := ev_E d50_12 rfl rfl rfl rfl rfl rfl rfl
theorem d50_13 : decode (ab_C 50) 13 = .ok (.iload_n 2, 1) := by decide +kernel
theorem e50_13 {d : Nat} {l0 l1 : Option Value} {x : Int32} {σ : ab_St} {Q : Option Value → ab_St → Prop} : Ev d 50 13 [l0, l1, some (.int x)] [] σ Q = Ev d 50 14 [l0, l1, some (.int x)] [.int x] σ Q := ev_A1 d50_13 rfl
theorem d50_14 : decode (ab_C 50) 14 = .ok (.iconst 1, 1) := by decide +kernel
theorem e50_14 {d : Nat} {l0 l1 l2 : Option Value} {s0 : Int32} {σ : ab_St} {Q : Option Value → ab_St → Prop} : Ev d 50 14 [l0, l1, l2] [.int s0] σ Q = Ev d 50 15 [l0, l1, l2] [.int 1, .int s0] σ Q := ev_A1 d50_14 rfl
theorem d50_15 : decode (ab_C 50) 15 = .ok (.if_icmp .lt 9, 3) := by decide +kernel
theorem e50_15 {d : Nat} {l0 l1 l2 : Option Value} {s0 : Int32} {s1 : Int32} {σ : ab_St} {Q : Option Value → ab_St → Prop} : Ev d 50 15 [l0, l1, l2] [.int s0, .int s1] σ Q = if s1 < s0 then Ev d 50 24 [l0, l1, l2] [] σ Q else Ev d 50 18 [l0, l1, l2] [] σ Q := ev_B (c := s1 < s0) d50_15 rfl rfl rfl rfl rfl
theorem d50_18 : decode (ab_C 50) 18 = .ok (.iload_n 2, 1) := by decide +kernel
theorem e50_18 {d : Nat} {l0 l1 : Option Value} {x : Int32} {σ : ab_St} {Q : Option Value → ab_St → Prop} : Ev d 50 18 [l0, l1, some (.int x)] [] σ Q = Ev d 50 19 [l0, l1, some (.int x)] [.int x] σ Q := ev_A1 d50_18 rfl
theorem d50_19 : decode (ab_C 50) 19 = .ok (.bipush 9, 2) := by decide +kernel
theorem e50_19 {d : Nat} {l0 l1 l2 : Option Value} {s0 : Int32} {σ : ab_St} {Q : Option Value → ab_St → Prop} : Ev d 50 19 [l0, l1, l2] [.int s0] σ Q = Ev d 50 21 [l0, l1, l2] [.int 9, .int s0] σ Q := ev_A1 d50_19 rfl
theorem d50_21 : decode (ab_C 50) 21 = .ok (.if_icmp .le 6, 3) := by decide +kernel
theorem e50_21 {d : Nat} {l0 l1 l2 : Option Value} {s0 : Int32} {s1 : Int32} {σ : ab_St} {Q : Option Value → ab_St → Prop} : Ev d 50 21 [l0, l1, l2] [.int s0, .int s1] σ Q = if s1 ≤ s0 then Ev d 50 27 [l0, l1, l2] [] σ Q else Ev d 50 24 [l0, l1, l2] [] σ Q := ev_B (c := s1 ≤ s0) d50_21 rfl rfl rfl rfl rfl
theorem d50_24 : decode (ab_C 50) 24 = .ok (.bipush (-2), 2) := by decide +kernel
theorem e50_24 {d : Nat} {l0 l1 l2 : Option Value} {σ : ab_St} {Q : Option Value → ab_St → Prop} : Ev d 50 24 [l0, l1, l2] [] σ Q = Ev d 50 26 [l0, l1, l2] [.int (-2)] σ Q := ev_A1 d50_24 rfl
theorem d50_26 : decode (ab_C 50) 26 = .ok (.ireturn, 1) := by decide +kernel
theorem e50_26 {d : Nat} {l0 l1 l2 : Option Value} {s0 : Int32} {σ : ab_St} {Q : Option Value → ab_St → Prop} : Ev d 50 26 [l0, l1, l2] [.int s0] σ Q = Q (some (.int s0)) σ := ev_E d50_26 rfl rfl rfl rfl rfl rfl rfl
theorem d50_27 : decode (ab_C 50) 27 = .ok (.aload_n 0, 1) := by decide +kernel
theorem e50_27 {d : Nat} {l1 l2 : Option Value} {x : Nat} {σ : ab_St} {Q : Option Value → ab_St → Prop} : Ev d 50 27 [some (.ref x), l1, l2] [] σ Q = Ev d 50 28 [some (.ref x), l1, l2] [.ref x] σ Q := ev_A1 d50_27 rfl
theorem d50_28 : decode (ab_C 50) 28 = .ok (.getfield 33, 3) := by decide +kernel
theorem e50_28 {d : Nat} {l0 l1 l2 : Option Value} {s0 : Nat} {σ : ab_St} {Q : Option Value → ab_St → Prop} : Ev d 50 28 [l0, l1, l2] [.ref s0] σ Q = (ab_k s0 = 0 ∧ Ev d 50 31 [l0, l1, l2] [.ref (ab_r s0 3)] σ Q) := ev_Hc (c := ab_k s0 = 0) d50_28 rfl rfl rfl rfl rfl rfl rfl rfl
theorem d50_31 : decode (ab_C 50) 31 = .ok (.invokevirtual 113, 3) := by decide +kernel
theorem e50_31 {d : Nat} {l0 l1 l2 : Option Value} {s0 : Nat} {σ : ab_St} {Q : Option Value → ab_St → Prop} : Ev (d + 1) 50 31 [l0, l1, l2] [.ref s0] σ Q = (ab_k s0 = 4 ∧ Ev d 38 0 [some (.ref s0), none, none, none] [] σ (fun r σ2 => Ev (d + 1) 50 34 [l0, l1, l2] (r.toList ++ []) σ2 Q)) := ev_KV (b := s0) (ls := [l0, l1, l2]) (st := [.ref s0]) (as := []) (rest := []) d50_31 rfl rfl rfl (Nat.le_of_ble_eq_true rfl) (Nat.le_of_ble_eq_true rfl) (Nat.le_of_ble_eq_true rfl) rfl rfl rfl rfl rfl rfl rfl
theorem d50_34 : decode (ab_C 50) 34 = .ok (.iload_n 1, 1) := by decide +kernel
theorem e50_34 {d : Nat} {l0 l2 : Option Value} {x : Int32} {s0 : Int32} {σ : ab_St} {Q : Option Value → ab_St → Prop} : Ev d 50 34 [l0, some (.int x), l2] [.int s0] σ Q = Ev d 50 35 [l0, some (.int x), l2] [.int x, .int s0] σ Q := ev_A1 d50_34 rfl
theorem d50_35 : decode (ab_C 50) 35 = .ok (.invokestatic 141, 3) := by decide +kernel
theorem e50_35 {d : Nat} {l0 l1 l2 : Option Value} {s0 : Int32} {s1 : Int32} {σ : ab_St} {Q : Option Value → ab_St → Prop} : Ev (d + 1) 50 35 [l0, l1, l2] [.int s0, .int s1] σ Q = Ev d 32 0 [some (.int s1), some (.int s0)] [] σ (fun r σ2 => Ev (d + 1) 50 38 [l0, l1, l2] (r.toList ++ []) σ2 Q) := ev_K0 (y := 32) (ls := [l0, l1, l2]) (st := [.int s0, .int s1]) (as := [.int s1, .int s0]) (rest := []) d50_35 rfl rfl rfl rfl rfl rfl rfl rfl
theorem d50_38 : decode (ab_C 50) 38 = .ok (.ifCond .ne 6, 3) := by decide +kernel
theorem e50_38 {d : Nat} {l0 l1 l2 : Option Value} {s0 : Int32} {σ : ab_St} {Q : Option Value → ab_St → Prop} : Ev d 50 38 [l0, l1, l2] [.int s0] σ Q = if s0 = 0 then Ev d 50 41 [l0, l1, l2] [] σ Q else Ev d 50 44 [l0, l1, l2] [] σ Q := ev_B (c := s0 = 0) d50_38 rfl rfl rfl rfl rfl
theorem d50_41 : decode (ab_C 50) 41 = .ok (.bipush (-3), 2) := by decide +kernel
theorem e50_41 {d : Nat} {l0 l1 l2 : Option Value} {σ : ab_St} {Q : Option Value → ab_St → Prop} : Ev d 50 41 [l0, l1, l2] [] σ Q = Ev d 50 43 [l0, l1, l2] [.int (-3)] σ Q := ev_A1 d50_41 rfl
theorem d50_43 : decode (ab_C 50) 43 = .ok (.ireturn, 1) := by decide +kernel
theorem e50_43 {d : Nat} {l0 l1 l2 : Option Value} {s0 : Int32} {σ : ab_St} {Q : Option Value → ab_St → Prop} : Ev d 50 43 [l0, l1, l2] [.int s0] σ Q = Q (some (.int s0)) σ := ev_E d50_43 rfl rfl rfl rfl rfl rfl rfl
theorem d50_44 : decode (ab_C 50) 44 = .ok (.aload_n 0, 1) := by decide +kernel
theorem e50_44 {d : Nat} {l1 l2 : Option Value} {x : Nat} {σ : ab_St} {Q : Option Value → ab_St → Prop} : Ev d 50 44 [some (.ref x), l1, l2] [] σ Q = Ev d 50 45 [some (.ref x), l1, l2] [.ref x] σ Q := ev_A1 d50_44 rfl
theorem d50_45 : decode (ab_C 50) 45 = .ok (.getfield 43, 3) := by decide +kernel
theorem e50_45 {d : Nat} {l0 l1 l2 : Option Value} {s0 : Nat} {σ : ab_St} {Q : Option Value → ab_St → Prop} : Ev d 50 45 [l0, l1, l2] [.ref s0] σ Q = (ab_k s0 = 0 ∧ Ev d 50 48 [l0, l1, l2] [.ref (ab_r s0 5)] σ Q) := ev_Hc (c := ab_k s0 = 0) d50_45 rfl rfl rfl rfl rfl rfl rfl rfl
theorem d50_48 : decode (ab_C 50) 48 = .ok (.aload_n 0, 1) := by decide +kernel
theorem e50_48 {d : Nat} {l1 l2 : Option Value} {x : Nat} {s0 : Nat} {σ : ab_St} {Q : Option Value → ab_St → Prop} : Ev d 50 48 [some (.ref x), l1, l2] [.ref s0] σ Q = Ev d 50 49 [some (.ref x), l1, l2] [.ref x, .ref s0] σ Q := ev_A1 d50_48 rfl
theorem d50_49 : decode (ab_C 50) 49 = .ok (.getfield 33, 3) := by decide +kernel
theorem e50_49 {d : Nat} {l0 l1 l2 : Option Value} {s0 : Nat} {s1 : Nat} {σ : ab_St} {Q : Option Value → ab_St → Prop} : Ev d 50 49 [l0, l1, l2] [.ref s0, .ref s1] σ Q = (ab_k s0 = 0 ∧ Ev d 50 52 [l0, l1, l2] [.ref (ab_r s0 3), .ref s1] σ Q) := ev_Hc (c := ab_k s0 = 0) d50_49 rfl rfl rfl rfl rfl rfl rfl rfl
theorem d50_52 : decode (ab_C 50) 52 = .ok (.iload_n 1, 1) := by decide +kernel
theorem e50_52 {d : Nat} {l0 l2 : Option Value} {x : Int32} {s0 : Nat} {s1 : Nat} {σ : ab_St} {Q : Option Value → ab_St → Prop} : Ev d 50 52 [l0, some (.int x), l2] [.ref s0, .ref s1] σ Q = Ev d 50 53 [l0, some (.int x), l2] [.int x, .ref s0, .ref s1] σ Q := ev_A1 d50_52 rfl
theorem d50_53 : decode (ab_C 50) 53 = .ok (.invokevirtual 165, 3) := by decide +kernel
theorem e50_53 {d : Nat} {l0 l1 l2 : Option Value} {s0 : Int32} {s1 : Nat} {s2 : Nat} {σ : ab_St} {Q : Option Value → ab_St → Prop} : Ev (d + 1) 50 53 [l0, l1, l2] [.int s0, .ref s1, .ref s2] σ Q = (ab_k s2 = 5 ∧ Ev d 48 0 [some (.ref s2), some (.ref s1), some (.int s0), none] [] σ (fun r σ2 => Ev (d + 1) 50 56 [l0, l1, l2] (r.toList ++ []) σ2 Q)) := ev_KV (b := s2) (ls := [l0, l1, l2]) (st := [.int s0, .ref s1, .ref s2]) (as := [.ref s1, .int s0]) (rest := []) d50_53 rfl rfl rfl (Nat.le_of_ble_eq_true rfl) (Nat.le_of_ble_eq_true rfl) (Nat.le_of_ble_eq_true rfl) rfl rfl rfl rfl rfl rfl rfl
theorem d50_56 : decode (ab_C 50) 56 = .ok (.aload_n 0, 1) := by decide +kernel
theorem e50_56 {d : Nat} {l1 l2 : Option Value} {x : Nat} {σ : ab_St} {Q : Option Value → ab_St → Prop} : Ev d 50 56 [some (.ref x), l1, l2] [] σ Q = Ev d 50 57 [some (.ref x), l1, l2] [.ref x] σ Q := ev_A1 d50_56 rfl
theorem d50_57 : decode (ab_C 50) 57 = .ok (.getfield 33, 3) := by decide +kernel
theorem e50_57 {d : Nat} {l0 l1 l2 : Option Value} {s0 : Nat} {σ : ab_St} {Q : Option Value → ab_St → Prop} : Ev d 50 57 [l0, l1, l2] [.ref s0] σ Q = (ab_k s0 = 0 ∧ Ev d 50 60 [l0, l1, l2] [.ref (ab_r s0 3)] σ Q) := ev_Hc (c := ab_k s0 = 0) d50_57 rfl rfl rfl rfl rfl rfl rfl rfl
theorem d50_60 : decode (ab_C 50) 60 = .ok (.getfield 137, 3) := by decide +kernel
theorem e50_60 {d : Nat} {l0 l1 l2 : Option Value} {s0 : Nat} {σ : ab_St} {Q : Option Value → ab_St → Prop} : Ev d 50 60 [l0, l1, l2] [.ref s0] σ Q = (ab_k s0 = 4 ∧ Ev d 50 63 [l0, l1, l2] [.ref (ab_r s0 0)] σ Q) := ev_Hc (c := ab_k s0 = 4) d50_60 rfl rfl rfl rfl rfl rfl rfl rfl
theorem d50_63 : decode (ab_C 50) 63 = .ok (.iload_n 1, 1) := by decide +kernel
theorem e50_63 {d : Nat} {l0 l2 : Option Value} {x : Int32} {s0 : Nat} {σ : ab_St} {Q : Option Value → ab_St → Prop} : Ev d 50 63 [l0, some (.int x), l2] [.ref s0] σ Q = Ev d 50 64 [l0, some (.int x), l2] [.int x, .ref s0] σ Q := ev_A1 d50_63 rfl
theorem d50_64 : decode (ab_C 50) 64 = .ok (.dup2, 1) := by decide +kernel
theorem e50_64 {d : Nat} {l0 l1 l2 : Option Value} {s0 : Int32} {s1 : Nat} {σ : ab_St} {Q : Option Value → ab_St → Prop} : Ev d 50 64 [l0, l1, l2] [.int s0, .ref s1] σ Q = Ev d 50 65 [l0, l1, l2] [.int s0, .ref s1, .int s0, .ref s1] σ Q := ev_A1 d50_64 rfl
theorem d50_65 : decode (ab_C 50) 65 = .ok (.iaload, 1) := by decide +kernel
theorem e50_65 {d : Nat} {l0 l1 l2 : Option Value} {s0 : Int32} {s1 : Nat} {s2 : Int32} {s3 : Nat} {σ : ab_St} {Q : Option Value → ab_St → Prop} : Ev d 50 65 [l0, l1, l2] [.int s0, .ref s1, .int s2, .ref s3] σ Q = ((ab_k s1 = 100 ∧ ab_in s0 (ab_n s1)) ∧ Ev d 50 66 [l0, l1, l2] [.int (σ.1 s1 s0.toNatClampNeg), .int s2, .ref s3] σ Q) := ev_Hc (c := ab_k s1 = 100 ∧ ab_in s0 (ab_n s1)) d50_65 rfl rfl rfl rfl rfl rfl rfl rfl
theorem d50_66 : decode (ab_C 50) 66 = .ok (.iload_n 2, 1) := by decide +kernel
theorem e50_66 {d : Nat} {l0 l1 : Option Value} {x : Int32} {s0 : Int32} {s1 : Int32} {s2 : Nat} {σ : ab_St} {Q : Option Value → ab_St → Prop} : Ev d 50 66 [l0, l1, some (.int x)] [.int s0, .int s1, .ref s2] σ Q = Ev d 50 67 [l0, l1, some (.int x)] [.int x, .int s0, .int s1, .ref s2] σ Q := ev_A1 d50_66 rfl
theorem d50_67 : decode (ab_C 50) 67 = .ok (.iadd, 1) := by decide +kernel
theorem e50_67 {d : Nat} {l0 l1 l2 : Option Value} {s0 : Int32} {s1 : Int32} {s2 : Int32} {s3 : Nat} {σ : ab_St} {Q : Option Value → ab_St → Prop} : Ev d 50 67 [l0, l1, l2] [.int s0, .int s1, .int s2, .ref s3] σ Q = Ev d 50 68 [l0, l1, l2] [.int (s1 + s0), .int s2, .ref s3] σ Q := ev_A2 d50_67 rfl rfl
theorem d50_68 : decode (ab_C 50) 68 = .ok (.iastore, 1) := by decide +kernel
theorem e50_68 {d : Nat} {l0 l1 l2 : Option Value} {s0 : Int32} {s1 : Int32} {s2 : Nat} {σ : ab_St} {Q : Option Value → ab_St → Prop} : Ev d 50 68 [l0, l1, l2] [.int s0, .int s1, .ref s2] σ Q = ((ab_k s2 = 100 ∧ ab_in s1 (ab_n s2)) ∧ Ev d 50 69 [l0, l1, l2] [] (ab_wI σ s2 (upd (σ.1 s2) s1.toNatClampNeg s0)) Q) := ev_Hc (c := ab_k s2 = 100 ∧ ab_in s1 (ab_n s2)) d50_68 rfl rfl rfl rfl rfl rfl rfl rfl
theorem d50_69 : decode (ab_C 50) 69 = .ok (.aload_n 0, 1) := by decide +kernel
theorem e50_69 {d : Nat} {l1 l2 : Option Value} {x : Nat} {σ : ab_St} {Q : Option Value → ab_St → Prop} : Ev d 50 69 [some (.ref x), l1, l2] [] σ Q = Ev d 50 70 [some (.ref x), l1, l2] [.ref x] σ Q := ev_A1 d50_69 rfl
theorem d50_70 : decode (ab_C 50) 70 = .ok (.getfield 33, 3) := by decide +kernel
theorem e50_70 {d : Nat} {l0 l1 l2 : Option Value} {s0 : Nat} {σ : ab_St} {Q : Option Value → ab_St → Prop} : Ev d 50 70 [l0, l1, l2] [.ref s0] σ Q = (ab_k s0 = 0 ∧ Ev d 50 73 [l0, l1, l2] [.ref (ab_r s0 3)] σ Q) := ev_Hc (c := ab_k s0 = 0) d50_70 rfl rfl rfl rfl rfl rfl rfl rfl
theorem d50_73 : decode (ab_C 50) 73 = .ok (.bipush (-9), 2) := by decide +kernel
theorem e50_73 {d : Nat} {l0 l1 l2 : Option Value} {s0 : Nat} {σ : ab_St} {Q : Option Value → ab_St → Prop} : Ev d 50 73 [l0, l1, l2] [.ref s0] σ Q = Ev d 50 75 [l0, l1, l2] [.int (-9), .ref s0] σ Q := ev_A1 d50_73 rfl
theorem d50_75 : decode (ab_C 50) 75 = .ok (.putfield 130, 3) := by decide +kernel
theorem e50_75 {d : Nat} {l0 l1 l2 : Option Value} {s0 : Int32} {s1 : Nat} {σ : ab_St} {Q : Option Value → ab_St → Prop} : Ev d 50 75 [l0, l1, l2] [.int s0, .ref s1] σ Q = (ab_k s1 = 4 ∧ Ev d 50 78 [l0, l1, l2] [] (ab_wI σ s1 (upd (σ.1 s1) 3 s0)) Q) := ev_Hc (c := ab_k s1 = 4) d50_75 rfl rfl rfl rfl rfl rfl rfl rfl
theorem d50_78 : decode (ab_C 50) 78 = .ok (.aload_n 0, 1) := by decide +kernel
theorem e50_78 {d : Nat} {l1 l2 : Option Value} {x : Nat} {σ : ab_St} {Q : Option Value → ab_St → Prop} : Ev d 50 78 [some (.ref x), l1, l2] [] σ Q = Ev d 50 79 [some (.ref x), l1, l2] [.ref x] σ Q := ev_A1 d50_78 rfl
theorem d50_79 : decode (ab_C 50) 79 = .ok (.getfield 33, 3) := by decide +kernel
theorem e50_79 {d : Nat} {l0 l1 l2 : Option Value} {s0 : Nat} {σ : ab_St} {Q : Option Value → ab_St → Prop} : Ev d 50 79 [l0, l1, l2] [.ref s0] σ Q = (ab_k s0 = 0 ∧ Ev d 50 82 [l0, l1, l2] [.ref (ab_r s0 3)] σ Q) := ev_Hc (c := ab_k s0 = 0) d50_79 rfl rfl rfl rfl rfl rfl rfl rfl
theorem d50_82 : decode (ab_C 50) 82 = .ok (.getfield 137, 3) := by decide +kernel
theorem e50_82 {d : Nat} {l0 l1 l2 : Option Value} {s0 : Nat} {σ : ab_St} {Q : Option Value → ab_St → Prop} : Ev d 50 82 [l0, l1, l2] [.ref s0] σ Q = (ab_k s0 = 4 ∧ Ev d 50 85 [l0, l1, l2] [.ref (ab_r s0 0)] σ Q) := ev_Hc (c := ab_k s0 = 4) d50_82 rfl rfl rfl rfl rfl rfl rfl rfl
theorem d50_85 : decode (ab_C 50) 85 = .ok (.iload_n 1, 1) := by decide +kernel
theorem e50_85 {d : Nat} {l0 l2 : Option Value} {x : Int32} {s0 : Nat} {σ : ab_St} {Q : Option Value → ab_St → Prop} : Ev d 50 85 [l0, some (.int x), l2] [.ref s0] σ Q = Ev d 50 86 [l0, some (.int x), l2] [.int x, .ref s0] σ Q := ev_A1 d50_85 rfl
theorem d50_86 : decode (ab_C 50) 86 = .ok (.iaload, 1) := by decide +kernel
theorem e50_86 {d : Nat} {l0 l1 l2 : Option Value} {s0 : Int32} {s1 : Nat} {σ : ab_St} {Q : Option Value → ab_St → Prop} : Ev d 50 86 [l0, l1, l2] [.int s0, .ref s1] σ Q = ((ab_k s1 = 100 ∧ ab_in s0 (ab_n s1)) ∧ Ev d 50 87 [l0, l1, l2] [.int (σ.1 s1 s0.toNatClampNeg)] σ Q) := ev_Hc (c := ab_k s1 = 100 ∧ ab_in s0 (ab_n s1)) d50_86 rfl rfl rfl rfl rfl rfl rfl rfl
theorem d50_87 : decode (ab_C 50) 87 = .ok (.ireturn, 1) := by decide +kernel
theorem e50_87 {d : Nat} {l0 l1 l2 : Option Value} {s0 : Int32} {σ : ab_St} {Q : Option Value → ab_St → Prop} : Ev d 50 87 [l0, l1, l2] [.int s0] σ Q = Q (some (.int s0)) σ := ev_E d50_87 rfl rfl rfl rfl rfl rfl rfl
/-! SaidLeast.come(I)I -/
theorem d51_0 : decode (ab_C 51) 0 = .ok (.aload_n 0, 1) := by decide +kernel
theorem e51_0 {d : Nat} {l1 : Option Value} {x : Nat} {σ : ab_St} {Q : Option Value → ab_St → Prop} : Ev d 51 0 [some (.ref x), l1] [] σ Q = Ev d 51 1 [some (.ref x), l1] [.ref x] σ Q := ev_A1 d51_0 rfl
theorem d51_1 : decode (ab_C 51) 1 = .ok (.getfield 26, 3) := by decide +kernel
theorem e51_1 {d : Nat} {l0 l1 : Option Value} {s0 : Nat} {σ : ab_St} {Q : Option Value → ab_St → Prop} : Ev d 51 1 [l0, l1] [.ref s0] σ Q = (ab_k s0 = 0 ∧ Ev d 51 4 [l0, l1] [.ref (ab_r s0 2)] σ Q) := ev_Hc (c := ab_k s0 = 0) d51_1 rfl rfl rfl rfl rfl rfl rfl rfl
theorem d51_4 : decode (ab_C 51) 4 = .ok (.iload_n 1, 1) := by decide +kernel
theorem e51_4 {d : Nat} {l0 : Option Value} {x : Int32} {s0 : Nat} {σ : ab_St} {Q : Option Value → ab_St → Prop} : Ev d 51 4 [l0, some (.int x)] [.ref s0] σ Q = Ev d 51 5 [l0, some (.int x)] [.int x, .ref s0] σ Q := ev_A1 d51_4 rfl
theorem d51_5 : decode (ab_C 51) 5 = .ok (.invokevirtual 133, 3) := by decide +kernel
theorem e51_5 {d : Nat} {l0 l1 : Option Value} {s0 : Int32} {s1 : Nat} {σ : ab_St} {Q : Option Value → ab_St → Prop} : Ev (d + 1) 51 5 [l0, l1] [.int s0, .ref s1] σ Q = (ab_k s1 = 3 ∧ Ev d 26 0 [some (.ref s1), some (.int s0)] [] σ (fun r σ2 => Ev (d + 1) 51 8 [l0, l1] (r.toList ++ []) σ2 Q)) := ev_KV (b := s1) (ls := [l0, l1]) (st := [.int s0, .ref s1]) (as := [.int s0]) (rest := []) d51_5 rfl rfl rfl (Nat.le_of_ble_eq_true rfl) (Nat.le_of_ble_eq_true rfl) (Nat.le_of_ble_eq_true rfl) rfl rfl rfl rfl rfl rfl rfl
theorem d51_8 : decode (ab_C 51) 8 = .ok (.ifCond .ne 5, 3) := by decide +kernel
theorem e51_8 {d : Nat} {l0 l1 : Option Value} {s0 : Int32} {σ : ab_St} {Q : Option Value → ab_St → Prop} : Ev d 51 8 [l0, l1] [.int s0] σ Q = if s0 = 0 then Ev d 51 11 [l0, l1] [] σ Q else Ev d 51 13 [l0, l1] [] σ Q := ev_B (c := s0 = 0) d51_8 rfl rfl rfl rfl rfl
theorem d51_11 : decode (ab_C 51) 11 = .ok (.iconst (-1), 1) := by decide +kernel
theorem e51_11 {d : Nat} {l0 l1 : Option Value} {σ : ab_St} {Q : Option Value → ab_St → Prop} : Ev d 51 11 [l0, l1] [] σ Q = Ev d 51 12 [l0, l1] [.int (-1)] σ Q := ev_A1 d51_11 rfl
theorem d51_12 : decode (ab_C 51) 12 = .ok (.ireturn, 1) := by decide +kernel
theorem e51_12 {d : Nat} {l0 l1 : Option Value} {s0 : Int32} {σ : ab_St} {Q : Option Value → ab_St → Prop} : Ev d 51 12 [l0, l1] [.int s0] σ Q = Q (some (.int s0)) σ := ev_E d51_12 rfl rfl rfl rfl rfl rfl rfl
theorem d51_13 : decode (ab_C 51) 13 = .ok (.aload_n 0, 1) := by decide +kernel
theorem e51_13 {d : Nat} {l1 : Option Value} {x : Nat} {σ : ab_St} {Q : Option Value → ab_St → Prop} : Ev d 51 13 [some (.ref x), l1] [] σ Q = Ev d 51 14 [some (.ref x), l1] [.ref x] σ Q := ev_A1 d51_13 rfl
theorem d51_14 : decode (ab_C 51) 14 = .ok (.getfield 33, 3) := by decide +kernel
theorem e51_14 {d : Nat} {l0 l1 : Option Value} {s0 : Nat} {σ : ab_St} {Q : Option Value → ab_St → Prop} : Ev d 51 14 [l0, l1] [.ref s0] σ Q = (ab_k s0 = 0 ∧ Ev d 51 17 [l0, l1] [.ref (ab_r s0 3)] σ Q) := ev_Hc (c := ab_k s0 = 0) d51_14 rfl rfl rfl rfl rfl rfl rfl rfl
theorem d51_17 : decode (ab_C 51) 17 = .ok (.getfield 110, 3) := by decide +kernel
theorem e51_17 {d : Nat} {l0 l1 : Option Value} {s0 : Nat} {σ : ab_St} {Q : Option Value → ab_St → Prop} : Ev d 51 17 [l0, l1] [.ref s0] σ Q = (ab_k s0 = 4 ∧ Ev d 51 20 [l0, l1] [.int (σ.1 s0 1)] σ Q) := ev_Hc (c := ab_k s0 = 4) d51_17 rfl rfl rfl rfl rfl rfl rfl rfl
theorem d51_20 : decode (ab_C 51) 20 = .ok (.iload_n 1, 1) := by decide +kernel
theorem e51_20 {d : Nat} {l0 : Option Value} {x : Int32} {s0 : Int32} {σ : ab_St} {Q : Option Value → ab_St → Prop} : Ev d 51 20 [l0, some (.int x)] [.int s0] σ Q = Ev d 51 21 [l0, some (.int x)] [.int x, .int s0] σ Q := ev_A1 d51_20 rfl
theorem d51_21 : decode (ab_C 51) 21 = .ok (.invokestatic 141, 3) := by decide +kernel
theorem e51_21 {d : Nat} {l0 l1 : Option Value} {s0 : Int32} {s1 : Int32} {σ : ab_St} {Q : Option Value → ab_St → Prop} : Ev (d + 1) 51 21 [l0, l1] [.int s0, .int s1] σ Q = Ev d 32 0 [some (.int s1), some (.int s0)] [] σ (fun r σ2 => Ev (d + 1) 51 24 [l0, l1] (r.toList ++ []) σ2 Q) := ev_K0 (y := 32) (ls := [l0, l1]) (st := [.int s0, .int s1]) (as := [.int s1, .int s0]) (rest := []) d51_21 rfl rfl rfl rfl rfl rfl rfl rfl
theorem d51_24 : decode (ab_C 51) 24 = .ok (.ifCond .eq 6, 3) := by decide +kernel
theorem e51_24 {d : Nat} {l0 l1 : Option Value} {s0 : Int32} {σ : ab_St} {Q : Option Value → ab_St → Prop} : Ev d 51 24 [l0, l1] [.int s0] σ Q = if s0 = 0 then Ev d 51 30 [l0, l1] [] σ Q else Ev d 51 27 [l0, l1] [] σ Q := ev_B (c := s0 = 0) d51_24 rfl rfl rfl rfl rfl
theorem d51_27 : decode (ab_C 51) 27 = .ok (.bipush (-3), 2) := by decide +kernel
theorem e51_27 {d : Nat} {l0 l1 : Option Value} {σ : ab_St} {Q : Option Value → ab_St → Prop} : Ev d 51 27 [l0, l1] [] σ Q = Ev d 51 29 [l0, l1] [.int (-3)] σ Q := ev_A1 d51_27 rfl
theorem d51_29 : decode (ab_C 51) 29 = .ok (.ireturn, 1) := by decide +kernel
theorem e51_29 {d : Nat} {l0 l1 : Option Value} {s0 : Int32} {σ : ab_St} {Q : Option Value → ab_St → Prop} : Ev d 51 29 [l0, l1] [.int s0] σ Q = Q (some (.int s0)) σ := ev_E d51_29 rfl rfl rfl rfl rfl rfl rfl
theorem d51_30 : decode (ab_C 51) 30 = .ok (.aload_n 0, 1) := by decide +kernel
theorem e51_30 {d : Nat} {l1 : Option Value} {x : Nat} {σ : ab_St} {Q : Option Value → ab_St → Prop} : Ev d 51 30 [some (.ref x), l1] [] σ Q = Ev d 51 31 [some (.ref x), l1] [.ref x] σ Q := ev_A1 d51_30 rfl
theorem d51_31 : decode (ab_C 51) 31 = .ok (.getfield 43, 3) := by decide +kernel
theorem e51_31 {d : Nat} {l0 l1 : Option Value} {s0 : Nat} {σ : ab_St} {Q : Option Value → ab_St → Prop} : Ev d 51 31 [l0, l1] [.ref s0] σ Q = (ab_k s0 = 0 ∧ Ev d 51 34 [l0, l1] [.ref (ab_r s0 5)] σ Q) := ev_Hc (c := ab_k s0 = 0) d51_31 rfl rfl rfl rfl rfl rfl rfl rfl
theorem d51_34 : decode (ab_C 51) 34 = .ok (.aload_n 0, 1) := by decide +kernel
theorem e51_34 {d : Nat} {l1 : Option Value} {x : Nat} {s0 : Nat} {σ : ab_St} {Q : Option Value → ab_St → Prop} : Ev d 51 34 [some (.ref x), l1] [.ref s0] σ Q = Ev d 51 35 [some (.ref x), l1] [.ref x, .ref s0] σ Q := ev_A1 d51_34 rfl
theorem d51_35 : decode (ab_C 51) 35 = .ok (.getfield 33, 3) := by decide +kernel
theorem e51_35 {d : Nat} {l0 l1 : Option Value} {s0 : Nat} {s1 : Nat} {σ : ab_St} {Q : Option Value → ab_St → Prop} : Ev d 51 35 [l0, l1] [.ref s0, .ref s1] σ Q = (ab_k s0 = 0 ∧ Ev d 51 38 [l0, l1] [.ref (ab_r s0 3), .ref s1] σ Q) := ev_Hc (c := ab_k s0 = 0) d51_35 rfl rfl rfl rfl rfl rfl rfl rfl
theorem d51_38 : decode (ab_C 51) 38 = .ok (.iload_n 1, 1) := by decide +kernel
theorem e51_38 {d : Nat} {l0 : Option Value} {x : Int32} {s0 : Nat} {s1 : Nat} {σ : ab_St} {Q : Option Value → ab_St → Prop} : Ev d 51 38 [l0, some (.int x)] [.ref s0, .ref s1] σ Q = Ev d 51 39 [l0, some (.int x)] [.int x, .ref s0, .ref s1] σ Q := ev_A1 d51_38 rfl
theorem d51_39 : decode (ab_C 51) 39 = .ok (.invokevirtual 165, 3) := by decide +kernel
theorem e51_39 {d : Nat} {l0 l1 : Option Value} {s0 : Int32} {s1 : Nat} {s2 : Nat} {σ : ab_St} {Q : Option Value → ab_St → Prop} : Ev (d + 1) 51 39 [l0, l1] [.int s0, .ref s1, .ref s2] σ Q = (ab_k s2 = 5 ∧ Ev d 48 0 [some (.ref s2), some (.ref s1), some (.int s0), none] [] σ (fun r σ2 => Ev (d + 1) 51 42 [l0, l1] (r.toList ++ []) σ2 Q)) := ev_KV (b := s2) (ls := [l0, l1]) (st := [.int s0, .ref s1, .ref s2]) (as := [.ref s1, .int s0]) (rest := []) d51_39 rfl rfl rfl (Nat.le_of_ble_eq_true rfl) (Nat.le_of_ble_eq_true rfl) (Nat.le_of_ble_eq_true rfl) rfl rfl rfl rfl rfl rfl rfl
theorem d51_42 : decode (ab_C 51) 42 = .ok (.aload_n 0, 1) := by decide +kernel
theorem e51_42 {d : Nat} {l1 : Option Value} {x : Nat} {σ : ab_St} {Q : Option Value → ab_St → Prop} : Ev d 51 42 [some (.ref x), l1] [] σ Q = Ev d 51 43 [some (.ref x), l1] [.ref x] σ Q := ev_A1 d51_42 rfl
theorem d51_43 : decode (ab_C 51) 43 = .ok (.getfield 33, 3) := by decide +kernel
theorem e51_43 {d : Nat} {l0 l1 : Option Value} {s0 : Nat} {σ : ab_St} {Q : Option Value → ab_St → Prop} : Ev d 51 43 [l0, l1] [.ref s0] σ Q = (ab_k s0 = 0 ∧ Ev d 51 46 [l0, l1] [.ref (ab_r s0 3)] σ Q) := ev_Hc (c := ab_k s0 = 0) d51_43 rfl rfl rfl rfl rfl rfl rfl rfl
theorem d51_46 : decode (ab_C 51) 46 = .ok (.getfield 137, 3) := by decide +kernel
theorem e51_46 {d : Nat} {l0 l1 : Option Value} {s0 : Nat} {σ : ab_St} {Q : Option Value → ab_St → Prop} : Ev d 51 46 [l0, l1] [.ref s0] σ Q = (ab_k s0 = 4 ∧ Ev d 51 49 [l0, l1] [.ref (ab_r s0 0)] σ Q) := ev_Hc (c := ab_k s0 = 4) d51_46 rfl rfl rfl rfl rfl rfl rfl rfl
theorem d51_49 : decode (ab_C 51) 49 = .ok (.iload_n 1, 1) := by decide +kernel
theorem e51_49 {d : Nat} {l0 : Option Value} {x : Int32} {s0 : Nat} {σ : ab_St} {Q : Option Value → ab_St → Prop} : Ev d 51 49 [l0, some (.int x)] [.ref s0] σ Q = Ev d 51 50 [l0, some (.int x)] [.int x, .ref s0] σ Q := ev_A1 d51_49 rfl
theorem d51_50 : decode (ab_C 51) 50 = .ok (.aload_n 0, 1) := by decide +kernel
theorem e51_50 {d : Nat} {l1 : Option Value} {x : Nat} {s0 : Int32} {s1 : Nat} {σ : ab_St} {Q : Option Value → ab_St → Prop} : Ev d 51 50 [some (.ref x), l1] [.int s0, .ref s1] σ Q = Ev d 51 51 [some (.ref x), l1] [.ref x, .int s0, .ref s1] σ Q := ev_A1 d51_50 rfl
theorem d51_51 : decode (ab_C 51) 51 = .ok (.getfield 33, 3) := by decide +kernel
theorem e51_51 {d : Nat} {l0 l1 : Option Value} {s0 : Nat} {s1 : Int32} {s2 : Nat} {σ : ab_St} {Q : Option Value → ab_St → Prop} : Ev d 51 51 [l0, l1] [.ref s0, .int s1, .ref s2] σ Q = (ab_k s0 = 0 ∧ Ev d 51 54 [l0, l1] [.ref (ab_r s0 3), .int s1, .ref s2] σ Q) := ev_Hc (c := ab_k s0 = 0) d51_51 rfl rfl rfl rfl rfl rfl rfl rfl
theorem d51_54 : decode (ab_C 51) 54 = .ok (.invokevirtual 173, 3) := by decide +kernel
theorem e51_54 {d : Nat} {l0 l1 : Option Value} {s0 : Nat} {s1 : Int32} {s2 : Nat} {σ : ab_St} {Q : Option Value → ab_St → Prop} : Ev (d + 1) 51 54 [l0, l1] [.ref s0, .int s1, .ref s2] σ Q = (ab_k s0 = 4 ∧ Ev d 52 0 [some (.ref s0), none] [] σ (fun r σ2 => Ev (d + 1) 51 57 [l0, l1] (r.toList ++ [.int s1, .ref s2]) σ2 Q)) := ev_KV (b := s0) (ls := [l0, l1]) (st := [.ref s0, .int s1, .ref s2]) (as := []) (rest := [.int s1, .ref s2]) d51_54 rfl rfl rfl (Nat.le_of_ble_eq_true rfl) (Nat.le_of_ble_eq_true rfl) (Nat.le_of_ble_eq_true rfl) rfl rfl rfl rfl rfl rfl rfl
theorem d51_57 : decode (ab_C 51) 57 = .ok (.iastore, 1) := by decide +kernel
theorem e51_57 {d : Nat} {l0 l1 : Option Value} {s0 : Int32} {s1 : Int32} {s2 : Nat} {σ : ab_St} {Q : Option Value → ab_St → Prop} : Ev d 51 57 [l0, l1] [.int s0, .int s1, .ref s2] σ Q = ((ab_k s2 = 100 ∧ ab_in s1 (ab_n s2)) ∧ Ev d 51 58 [l0, l1] [] (ab_wI σ s2 (upd (σ.1 s2) s1.toNatClampNeg s0)) Q) := ev_Hc (c := ab_k s2 = 100 ∧ ab_in s1 (ab_n s2)) d51_57 rfl rfl rfl rfl rfl rfl rfl rfl
theorem d51_58 : decode (ab_C 51) 58 = .ok (.aload_n 0, 1) := by decide +kernel
theorem e51_58 {d : Nat} {l1 : Option Value} {x : Nat} {σ : ab_St} {Q : Option Value → ab_St → Prop} : Ev d 51 58 [some (.ref x), l1] [] σ Q = Ev d 51 59 [some (.ref x), l1] [.ref x] σ Q := ev_A1 d51_58 rfl
theorem d51_59 : decode (ab_C 51) 59 = .ok (.getfield 33, 3) := by decide +kernel
theorem e51_59 {d : Nat} {l0 l1 : Option Value} {s0 : Nat} {σ : ab_St} {Q : Option Value → ab_St → Prop} : Ev d 51 59 [l0, l1] [.ref s0] σ Q = (ab_k s0 = 0 ∧ Ev d 51 62 [l0, l1] [.ref (ab_r s0 3)] σ Q) := ev_Hc (c := ab_k s0 = 0) d51_59 rfl rfl rfl rfl rfl rfl rfl rfl
theorem d51_62 : decode (ab_C 51) 62 = .ok (.dup, 1) := by decide +kernel
theorem e51_62 {d : Nat} {l0 l1 : Option Value} {s0 : Nat} {σ : ab_St} {Q : Option Value → ab_St → Prop} : Ev d 51 62 [l0, l1] [.ref s0] σ Q = Ev d 51 63 [l0, l1] [.ref s0, .ref s0] σ Q := ev_A1 d51_62 rfl
theorem d51_63 : decode (ab_C 51) 63 = .ok (.getfield 110, 3) := by decide +kernel
theorem e51_63 {d : Nat} {l0 l1 : Option Value} {s0 : Nat} {s1 : Nat} {σ : ab_St} {Q : Option Value → ab_St → Prop} : Ev d 51 63 [l0, l1] [.ref s0, .ref s1] σ Q = (ab_k s0 = 4 ∧ Ev d 51 66 [l0, l1] [.int (σ.1 s0 1), .ref s1] σ Q) := ev_Hc (c := ab_k s0 = 4) d51_63 rfl rfl rfl rfl rfl rfl rfl rfl
theorem d51_66 : decode (ab_C 51) 66 = .ok (.iconst 1, 1) := by decide +kernel
theorem e51_66 {d : Nat} {l0 l1 : Option Value} {s0 : Int32} {s1 : Nat} {σ : ab_St} {Q : Option Value → ab_St → Prop} : Ev d 51 66 [l0, l1] [.int s0, .ref s1] σ Q = Ev d 51 67 [l0, l1] [.int 1, .int s0, .ref s1] σ Q := ev_A1 d51_66 rfl
theorem d51_67 : decode (ab_C 51) 67 = .ok (.iload_n 1, 1) := by decide +kernel
theorem e51_67 {d : Nat} {l0 : Option Value} {x : Int32} {s0 : Int32} {s1 : Int32} {s2 : Nat} {σ : ab_St} {Q : Option Value → ab_St → Prop} : Ev d 51 67 [l0, some (.int x)] [.int s0, .int s1, .ref s2] σ Q = Ev d 51 68 [l0, some (.int x)] [.int x, .int s0, .int s1, .ref s2] σ Q := ev_A1 d51_67 rfl
theorem d51_68 : decode (ab_C 51) 68 = .ok (.ishl, 1) := by decide +kernel
theorem e51_68 {d : Nat} {l0 l1 : Option Value} {s0 : Int32} {s1 : Int32} {s2 : Int32} {s3 : Nat} {σ : ab_St} {Q : Option Value → ab_St → Prop} : Ev d 51 68 [l0, l1] [.int s0, .int s1, .int s2, .ref s3] σ Q = Ev d 51 69 [l0, l1] [.int (s1 <<< (s0 &&& 31)), .int s2, .ref s3] σ Q := ev_A2 d51_68 rfl rfl
theorem d51_69 : decode (ab_C 51) 69 = .ok (.ior, 1) := by decide +kernel
theorem e51_69 {d : Nat} {l0 l1 : Option Value} {s0 : Int32} {s1 : Int32} {s2 : Nat} {σ : ab_St} {Q : Option Value → ab_St → Prop} : Ev d 51 69 [l0, l1] [.int s0, .int s1, .ref s2] σ Q = Ev d 51 70 [l0, l1] [.int (s1 ||| s0), .ref s2] σ Q := ev_A2 d51_69 rfl rfl
theorem d51_70 : decode (ab_C 51) 70 = .ok (.putfield 110, 3) := by decide +kernel
theorem e51_70 {d : Nat} {l0 l1 : Option Value} {s0 : Int32} {s1 : Nat} {σ : ab_St} {Q : Option Value → ab_St → Prop} : Ev d 51 70 [l0, l1] [.int s0, .ref s1] σ Q = (ab_k s1 = 4 ∧ Ev d 51 73 [l0, l1] [] (ab_wI σ s1 (upd (σ.1 s1) 1 s0)) Q) := ev_Hc (c := ab_k s1 = 4) d51_70 rfl rfl rfl rfl rfl rfl rfl rfl
theorem d51_73 : decode (ab_C 51) 73 = .ok (.aload_n 0, 1) := by decide +kernel
theorem e51_73 {d : Nat} {l1 : Option Value} {x : Nat} {σ : ab_St} {Q : Option Value → ab_St → Prop} : Ev d 51 73 [some (.ref x), l1] [] σ Q = Ev d 51 74 [some (.ref x), l1] [.ref x] σ Q := ev_A1 d51_73 rfl
theorem d51_74 : decode (ab_C 51) 74 = .ok (.getfield 33, 3) := by decide +kernel
theorem e51_74 {d : Nat} {l0 l1 : Option Value} {s0 : Nat} {σ : ab_St} {Q : Option Value → ab_St → Prop} : Ev d 51 74 [l0, l1] [.ref s0] σ Q = (ab_k s0 = 0 ∧ Ev d 51 77 [l0, l1] [.ref (ab_r s0 3)] σ Q) := ev_Hc (c := ab_k s0 = 0) d51_74 rfl rfl rfl rfl rfl rfl rfl rfl
theorem d51_77 : decode (ab_C 51) 77 = .ok (.bipush (-9), 2) := by decide +kernel
theorem e51_77 {d : Nat} {l0 l1 : Option Value} {s0 : Nat} {σ : ab_St} {Q : Option Value → ab_St → Prop} : Ev d 51 77 [l0, l1] [.ref s0] σ Q = Ev d 51 79 [l0, l1] [.int (-9), .ref s0] σ Q := ev_A1 d51_77 rfl
theorem d51_79 : decode (ab_C 51) 79 = .ok (.putfield 130, 3) := by decide +kernel
theorem e51_79 {d : Nat} {l0 l1 : Option Value} {s0 : Int32} {s1 : Nat} {σ : ab_St} {Q : Option Value → ab_St → Prop} : Ev d 51 79 [l0, l1] [.int s0, .ref s1] σ Q = (ab_k s1 = 4 ∧ Ev d 51 82 [l0, l1] [] (ab_wI σ s1 (upd (σ.1 s1) 3 s0)) Q) := ev_Hc (c := ab_k s1 = 4) d51_79 rfl rfl rfl rfl rfl rfl rfl rfl
theorem d51_82 : decode (ab_C 51) 82 = .ok (.aload_n 0, 1) := by decide +kernel
theorem e51_82 {d : Nat} {l1 : Option Value} {x : Nat} {σ : ab_St} {Q : Option Value → ab_St → Prop} : Ev d 51 82 [some (.ref x), l1] [] σ Q = Ev d 51 83 [some (.ref x), l1] [.ref x] σ Q := ev_A1 d51_82 rfl
theorem d51_83 : decode (ab_C 51) 83 = .ok (.getfield 33, 3) := by decide +kernel
theorem e51_83 {d : Nat} {l0 l1 : Option Value} {s0 : Nat} {σ : ab_St} {Q : Option Value → ab_St → Prop} : Ev d 51 83 [l0, l1] [.ref s0] σ Q = (ab_k s0 = 0 ∧ Ev d 51 86 [l0, l1] [.ref (ab_r s0 3)] σ Q) := ev_Hc (c := ab_k s0 = 0) d51_83 rfl rfl rfl rfl rfl rfl rfl rfl
theorem d51_86 : decode (ab_C 51) 86 = .ok (.getfield 137, 3) := by decide +kernel
theorem e51_86 {d : Nat} {l0 l1 : Option Value} {s0 : Nat} {σ : ab_St} {Q : Option Value → ab_St → Prop} : Ev d 51 86 [l0, l1] [.ref s0] σ Q = (ab_k s0 = 4 ∧ Ev d 51 89 [l0, l1] [.ref (ab_r s0 0)] σ Q) := ev_Hc (c := ab_k s0 = 4) d51_86 rfl rfl rfl rfl rfl rfl rfl rfl
theorem d51_89 : decode (ab_C 51) 89 = .ok (.iload_n 1, 1) := by decide +kernel
theorem e51_89 {d : Nat} {l0 : Option Value} {x : Int32} {s0 : Nat} {σ : ab_St} {Q : Option Value → ab_St → Prop} : Ev d 51 89 [l0, some (.int x)] [.ref s0] σ Q = Ev d 51 90 [l0, some (.int x)] [.int x, .ref s0] σ Q := ev_A1 d51_89 rfl
theorem d51_90 : decode (ab_C 51) 90 = .ok (.iaload, 1) := by decide +kernel
theorem e51_90 {d : Nat} {l0 l1 : Option Value} {s0 : Int32} {s1 : Nat} {σ : ab_St} {Q : Option Value → ab_St → Prop} : Ev d 51 90 [l0, l1] [.int s0, .ref s1] σ Q = ((ab_k s1 = 100 ∧ ab_in s0 (ab_n s1)) ∧ Ev d 51 91 [l0, l1] [.int (σ.1 s1 s0.toNatClampNeg)] σ Q) := ev_Hc (c := ab_k s1 = 100 ∧ ab_in s0 (ab_n s1)) d51_90 rfl rfl rfl rfl rfl rfl rfl rfl
theorem d51_91 : decode (ab_C 51) 91 = .ok (.ireturn, 1) := by decide +kernel
theorem e51_91 {d : Nat} {l0 l1 : Option Value} {s0 : Int32} {σ : ab_St} {Q : Option Value → ab_St → Prop} : Ev d 51 91 [l0, l1] [.int s0] σ Q = Q (some (.int s0)) σ := ev_E d51_91 rfl rfl rfl rfl rfl rfl rfl
/-! SaidLeast$State.wordsOfNewcomer()I -/
theorem d52_0 : decode (ab_C 52) 0 = .ok (.aload_n 0, 1) := by decide +kernel
theorem e52_0 {d : Nat} {l1 : Option Value} {x : Nat} {σ : ab_St} {Q : Option Value → ab_St → Prop} : Ev d 52 0 [some (.ref x), l1] [] σ Q = Ev d 52 1 [some (.ref x), l1] [.ref x] σ Q := ev_A1 d52_0 rfl
theorem d52_1 : decode (ab_C 52) 1 = .ok (.invokevirtual 50, 3) := by decide +kernel
theorem e52_1 {d : Nat} {l0 l1 : Option Value} {s0 : Nat} {σ : ab_St} {Q : Option Value → ab_St → Prop} : Ev (d + 1) 52 1 [l0, l1] [.ref s0] σ Q = (ab_k s0 = 4 ∧ Ev d 53 0 [some (.ref s0)] [] σ (fun r σ2 => Ev (d + 1) 52 4 [l0, l1] (r.toList ++ []) σ2 Q)) := ev_KV (b := s0) (ls := [l0, l1]) (st := [.ref s0]) (as := []) (rest := []) d52_1 rfl rfl rfl (Nat.le_of_ble_eq_true rfl) (Nat.le_of_ble_eq_true rfl) (Nat.le_of_ble_eq_true rfl) rfl rfl rfl rfl rfl rfl rfl
theorem d52_4 : decode (ab_C 52) 4 = .ok (.istore_n 1, 1) := by decide +kernel
theorem e52_4 {d : Nat} {l0 l1 : Option Value} {s0 : Int32} {σ : ab_St} {Q : Option Value → ab_St → Prop} : Ev d 52 4 [l0, l1] [.int s0] σ Q = Ev d 52 5 [l0, some (.int s0)] [] σ Q := ev_S d52_4 rfl rfl rfl rfl
theorem d52_5 : decode (ab_C 52) 5 = .ok (.aload_n 0, 1) := by decide +kernel
theorem e52_5 {d : Nat} {l1 : Option Value} {x : Nat} {σ : ab_St} {Q : Option Value → ab_St → Prop} : Ev d 52 5 [some (.ref x), l1] [] σ Q = Ev d 52 6 [some (.ref x), l1] [.ref x] σ Q := ev_A1 d52_5 rfl
theorem d52_6 : decode (ab_C 52) 6 = .ok (.getfield 31, 3) := by decide +kernel
theorem e52_6 {d : Nat} {l0 l1 : Option Value} {s0 : Nat} {σ : ab_St} {Q : Option Value → ab_St → Prop} : Ev d 52 6 [l0, l1] [.ref s0] σ Q = (ab_k s0 = 4 ∧ Ev d 52 9 [l0, l1] [.int (σ.1 s0 4)] σ Q) := ev_Hc (c := ab_k s0 = 4) d52_6 rfl rfl rfl rfl rfl rfl rfl rfl
theorem d52_9 : decode (ab_C 52) 9 = .ok (.ifCond .eq 7, 3) := by decide +kernel
theorem e52_9 {d : Nat} {l0 l1 : Option Value} {s0 : Int32} {σ : ab_St} {Q : Option Value → ab_St → Prop} : Ev d 52 9 [l0, l1] [.int s0] σ Q = if s0 = 0 then Ev d 52 16 [l0, l1] [] σ Q else Ev d 52 12 [l0, l1] [] σ Q := ev_B (c := s0 = 0) d52_9 rfl rfl rfl rfl rfl
theorem d52_12 : decode (ab_C 52) 12 = .ok (.iload_n 1, 1) := by decide +kernel
theorem e52_12 {d : Nat} {l0 : Option Value} {x : Int32} {σ : ab_St} {Q : Option Value → ab_St → Prop} : Ev d 52 12 [l0, some (.int x)] [] σ Q = Ev d 52 13 [l0, some (.int x)] [.int x] σ Q := ev_A1 d52_12 rfl
theorem d52_13 : decode (ab_C 52) 13 = .ok (.ifCond .ne 5, 3) := by decide +kernel
theorem e52_13 {d : Nat} {l0 l1 : Option Value} {s0 : Int32} {σ : ab_St} {Q : Option Value → ab_St → Prop} : Ev d 52 13 [l0, l1] [.int s0] σ Q = if s0 = 0 then Ev d 52 16 [l0, l1] [] σ Q else Ev d 52 18 [l0, l1] [] σ Q := ev_B (c := s0 = 0) d52_13 rfl rfl rfl rfl rfl
theorem d52_16 : decode (ab_C 52) 16 = .ok (.iconst 0, 1) := by decide +kernel
theorem e52_16 {d : Nat} {l0 l1 : Option Value} {σ : ab_St} {Q : Option Value → ab_St → Prop} : Ev d 52 16 [l0, l1] [] σ Q = Ev d 52 17 [l0, l1] [.int 0] σ Q := ev_A1 d52_16 rfl
theorem d52_17 : decode (ab_C 52) 17 = .ok (.ireturn, 1) := by decide +kernel
theorem e52_17 {d : Nat} {l0 l1 : Option Value} {s0 : Int32} {σ : ab_St} {Q : Option Value → ab_St → Prop} : Ev d 52 17 [l0, l1] [.int s0] σ Q = Q (some (.int s0)) σ := ev_E d52_17 rfl rfl rfl rfl rfl rfl rfl
theorem d52_18 : decode (ab_C 52) 18 = .ok (.aload_n 0, 1) := by decide +kernel
theorem e52_18 {d : Nat} {l1 : Option Value} {x : Nat} {σ : ab_St} {Q : Option Value → ab_St → Prop} : Ev d 52 18 [some (.ref x), l1] [] σ Q = Ev d 52 19 [some (.ref x), l1] [.ref x] σ Q := ev_A1 d52_18 rfl
theorem d52_19 : decode (ab_C 52) 19 = .ok (.getfield 31, 3) := by decide +kernel
theorem e52_19 {d : Nat} {l0 l1 : Option Value} {s0 : Nat} {σ : ab_St} {Q : Option Value → ab_St → Prop} : Ev d 52 19 [l0, l1] [.ref s0] σ Q = (ab_k s0 = 4 ∧ Ev d 52 22 [l0, l1] [.int (σ.1 s0 4)] σ Q) := ev_Hc (c := ab_k s0 = 4) d52_19 rfl rfl rfl rfl rfl rfl rfl rfl
theorem d52_22 : decode (ab_C 52) 22 = .ok (.iconst 1, 1) := by decide +kernel
theorem e52_22 {d : Nat} {l0 l1 : Option Value} {s0 : Int32} {σ : ab_St} {Q : Option Value → ab_St → Prop} : Ev d 52 22 [l0, l1] [.int s0] σ Q = Ev d 52 23 [l0, l1] [.int 1, .int s0] σ Q := ev_A1 d52_22 rfl
theorem d52_23 : decode (ab_C 52) 23 = .ok (.if_icmp .ne 12, 3) := by decide +kernel
theorem e52_23 {d : Nat} {l0 l1 : Option Value} {s0 : Int32} {s1 : Int32} {σ : ab_St} {Q : Option Value → ab_St → Prop} : Ev d 52 23 [l0, l1] [.int s0, .int s1] σ Q = if s1 = s0 then Ev d 52 26 [l0, l1] [] σ Q else Ev d 52 35 [l0, l1] [] σ Q := ev_B (c := s1 = s0) d52_23 rfl rfl rfl rfl rfl
theorem d52_26 : decode (ab_C 52) 26 = .ok (.aload_n 0, 1) := by decide +kernel
theorem e52_26 {d : Nat} {l1 : Option Value} {x : Nat} {σ : ab_St} {Q : Option Value → ab_St → Prop} : Ev d 52 26 [some (.ref x), l1] [] σ Q = Ev d 52 27 [some (.ref x), l1] [.ref x] σ Q := ev_A1 d52_26 rfl
theorem d52_27 : decode (ab_C 52) 27 = .ok (.invokevirtual 54, 3) := by decide +kernel
theorem e52_27 {d : Nat} {l0 l1 : Option Value} {s0 : Nat} {σ : ab_St} {Q : Option Value → ab_St → Prop} : Ev (d + 1) 52 27 [l0, l1] [.ref s0] σ Q = (ab_k s0 = 4 ∧ Ev d 40 0 [some (.ref s0), none, none] [] σ (fun r σ2 => Ev (d + 1) 52 30 [l0, l1] (r.toList ++ []) σ2 Q)) := ev_KV (b := s0) (ls := [l0, l1]) (st := [.ref s0]) (as := []) (rest := []) d52_27 rfl rfl rfl (Nat.le_of_ble_eq_true rfl) (Nat.le_of_ble_eq_true rfl) (Nat.le_of_ble_eq_true rfl) rfl rfl rfl rfl rfl rfl rfl
theorem d52_30 : decode (ab_C 52) 30 = .ok (.iload_n 1, 1) := by decide +kernel
theorem e52_30 {d : Nat} {l0 : Option Value} {x : Int32} {s0 : Int32} {σ : ab_St} {Q : Option Value → ab_St → Prop} : Ev d 52 30 [l0, some (.int x)] [.int s0] σ Q = Ev d 52 31 [l0, some (.int x)] [.int x, .int s0] σ Q := ev_A1 d52_30 rfl
theorem d52_31 : decode (ab_C 52) 31 = .ok (.idiv, 1) := by decide +kernel
theorem e52_31 {d : Nat} {l0 l1 : Option Value} {s0 : Int32} {s1 : Int32} {σ : ab_St} {Q : Option Value → ab_St → Prop} : Ev d 52 31 [l0, l1] [.int s0, .int s1] σ Q = (¬ s0 = 0 ∧ Ev d 52 32 [l0, l1] [.int (s1 / s0)] σ Q) := ev_D (c := s0 = 0) d52_31 rfl rfl rfl rfl rfl rfl rfl rfl
theorem d52_32 : decode (ab_C 52) 32 = .ok (.goto 7, 3) := by decide +kernel
theorem e52_32 {d : Nat} {l0 l1 : Option Value} {s0 : Int32} {σ : ab_St} {Q : Option Value → ab_St → Prop} : Ev d 52 32 [l0, l1] [.int s0] σ Q = Ev d 52 39 [l0, l1] [.int s0] σ Q := ev_J d52_32 rfl rfl rfl rfl rfl
theorem d52_35 : decode (ab_C 52) 35 = .ok (.aload_n 0, 1) := by decide +kernel
theorem e52_35 {d : Nat} {l1 : Option Value} {x : Nat} {σ : ab_St} {Q : Option Value → ab_St → Prop} : Ev d 52 35 [some (.ref x), l1] [] σ Q = Ev d 52 36 [some (.ref x), l1] [.ref x] σ Q := ev_A1 d52_35 rfl
theorem d52_36 : decode (ab_C 52) 36 = .ok (.invokevirtual 57, 3) := by decide +kernel
theorem e52_36 {d : Nat} {l0 l1 : Option Value} {s0 : Nat} {σ : ab_St} {Q : Option Value → ab_St → Prop} : Ev (d + 1) 52 36 [l0, l1] [.ref s0] σ Q = (ab_k s0 = 4 ∧ Ev d 55 0 [some (.ref s0), none, none] [] σ (fun r σ2 => Ev (d + 1) 52 39 [l0, l1] (r.toList ++ []) σ2 Q)) := ev_KV (b := s0) (ls := [l0, l1]) (st := [.ref s0]) (as := []) (rest := []) d52_36 rfl rfl rfl (Nat.le_of_ble_eq_true rfl) (Nat.le_of_ble_eq_true rfl) (Nat.le_of_ble_eq_true rfl) rfl rfl rfl rfl rfl rfl rfl
theorem d52_39 : decode (ab_C 52) 39 = .ok (.ireturn, 1) := by decide +kernel
theorem e52_39 {d : Nat} {l0 l1 : Option Value} {s0 : Int32} {σ : ab_St} {Q : Option Value → ab_St → Prop} : Ev d 52 39 [l0, l1] [.int s0] σ Q = Q (some (.int s0)) σ := ev_E d52_39 rfl rfl rfl rfl rfl rfl rfl
/-! SaidLeast$State.countThere()I -/
theorem d53_0 : decode (ab_C 53) 0 = .ok (.aload_n 0, 1) := by decide +kernel
theorem e53_0 {d : Nat} {x : Nat} {σ : ab_St} {Q : Option Value → ab_St → Prop} : Ev d 53 0 [some (.ref x)] [] σ Q = Ev d 53 1 [some (.ref x)] [.ref x] σ Q := ev_A1 d53_0 rfl
theorem d53_1 : decode (ab_C 53) 1 = .ok (.getfield 25, 3) := by decide +kernel
theorem e53_1 {d : Nat} {l0 : Option Value} {s0 : Nat} {σ : ab_St} {Q : Option Value → ab_St → Prop} : Ev d 53 1 [l0] [.ref s0] σ Q = (ab_k s0 = 4 ∧ Ev d 53 4 [l0] [.int (σ.1 s0 1)] σ Q) := ev_Hc (c := ab_k s0 = 4) d53_1 rfl rfl rfl rfl rfl rfl rfl rfl
theorem d53_4 : decode (ab_C 53) 4 = .ok (.invokestatic 34, 3) := by decide +kernel
theorem e53_4 {d : Nat} {l0 : Option Value} {s0 : Int32} {σ : ab_St} {Q : Option Value → ab_St → Prop} : Ev (d + 1) 53 4 [l0] [.int s0] σ Q = Ev d 54 0 [some (.int s0)] [] σ (fun r σ2 => Ev (d + 1) 53 7 [l0] (r.toList ++ []) σ2 Q) := ev_K0 (y := 54) (ls := [l0]) (st := [.int s0]) (as := [.int s0]) (rest := []) d53_4 rfl rfl rfl rfl rfl rfl rfl rfl
theorem d53_7 : decode (ab_C 53) 7 = .ok (.ireturn, 1) := by decide +kernel
theorem e53_7 {d : Nat} {l0 : Option Value} {s0 : Int32} {σ : ab_St} {Q : Option Value → ab_St → Prop} : Ev d 53 7 [l0] [.int s0] σ Q = Q (some (.int s0)) σ := ev_E d53_7 rfl rfl rfl rfl rfl rfl rfl
/-! java/lang/Integer.bitCount(I)I -/
theorem d54_0 : decode (ab_C 54) 0 = .ok (.iload_n 0, 1) := by decide +kernel
theorem e54_0 {d : Nat} {x : Int32} {σ : ab_St} {Q : Option Value → ab_St → Prop} : Ev d 54 0 [some (.int x)] [] σ Q = Ev d 54 1 [some (.int x)] [.int x] σ Q := ev_A1 d54_0 rfl
theorem d54_1 : decode (ab_C 54) 1 = .ok (.iload_n 0, 1) := by decide +kernel
theorem e54_1 {d : Nat} {x : Int32} {s0 : Int32} {σ : ab_St} {Q : Option Value → ab_St → Prop} : Ev d 54 1 [some (.int x)] [.int s0] σ Q = Ev d 54 2 [some (.int x)] [.int x, .int s0] σ Q := ev_A1 d54_1 rfl
theorem d54_2 : decode (ab_C 54) 2 = .ok (.iconst 1, 1) := by decide +kernel
theorem e54_2 {d : Nat} {l0 : Option Value} {s0 : Int32} {s1 : Int32} {σ : ab_St} {Q : Option Value → ab_St → Prop} : Ev d 54 2 [l0] [.int s0, .int s1] σ Q = Ev d 54 3 [l0] [.int 1, .int s0, .int s1] σ Q := ev_A1 d54_2 rfl
theorem d54_3 : decode (ab_C 54) 3 = .ok (.iushr, 1) := by decide +kernel
theorem e54_3 {d : Nat} {l0 : Option Value} {s0 : Int32} {s1 : Int32} {s2 : Int32} {σ : ab_St} {Q : Option Value → ab_St → Prop} : Ev d 54 3 [l0] [.int s0, .int s1, .int s2] σ Q = Ev d 54 4 [l0] [.int ((s1.toUInt32 >>> (s0.toUInt32 &&& Int32.toUInt32 31)).toInt32), .int s2] σ Q := ev_A2 d54_3 rfl rfl
theorem d54_4 : decode (ab_C 54) 4 = .ok (.ldc_w 265, 3) := by decide +kernel
theorem e54_4 {d : Nat} {l0 : Option Value} {s0 : Int32} {s1 : Int32} {σ : ab_St} {Q : Option Value → ab_St → Prop} : Ev d 54 4 [l0] [.int s0, .int s1] σ Q = Ev d 54 7 [l0] [.int 1431655765, .int s0, .int s1] σ Q := ev_A1 d54_4 rfl
theorem d54_7 : decode (ab_C 54) 7 = .ok (.iand, 1) := by decide +kernel
theorem e54_7 {d : Nat} {l0 : Option Value} {s0 : Int32} {s1 : Int32} {s2 : Int32} {σ : ab_St} {Q : Option Value → ab_St → Prop} : Ev d 54 7 [l0] [.int s0, .int s1, .int s2] σ Q = Ev d 54 8 [l0] [.int (s1 &&& s0), .int s2] σ Q := ev_A2 d54_7 rfl rfl
theorem d54_8 : decode (ab_C 54) 8 = .ok (.isub, 1) := by decide +kernel
theorem e54_8 {d : Nat} {l0 : Option Value} {s0 : Int32} {s1 : Int32} {σ : ab_St} {Q : Option Value → ab_St → Prop} : Ev d 54 8 [l0] [.int s0, .int s1] σ Q = Ev d 54 9 [l0] [.int (s1 - s0)] σ Q := ev_A2 d54_8 rfl rfl
theorem d54_9 : decode (ab_C 54) 9 = .ok (.istore_n 0, 1) := by decide +kernel
theorem e54_9 {d : Nat} {l0 : Option Value} {s0 : Int32} {σ : ab_St} {Q : Option Value → ab_St → Prop} : Ev d 54 9 [l0] [.int s0] σ Q = Ev d 54 10 [some (.int s0)] [] σ Q := ev_S d54_9 rfl rfl rfl rfl
theorem d54_10 : decode (ab_C 54) 10 = .ok (.iload_n 0, 1) := by decide +kernel
theorem e54_10 {d : Nat} {x : Int32} {σ : ab_St} {Q : Option Value → ab_St → Prop} : Ev d 54 10 [some (.int x)] [] σ Q = Ev d 54 11 [some (.int x)] [.int x] σ Q := ev_A1 d54_10 rfl
theorem d54_11 : decode (ab_C 54) 11 = .ok (.ldc_w 266, 3) := by decide +kernel
theorem e54_11 {d : Nat} {l0 : Option Value} {s0 : Int32} {σ : ab_St} {Q : Option Value → ab_St → Prop} : Ev d 54 11 [l0] [.int s0] σ Q = Ev d 54 14 [l0] [.int 858993459, .int s0] σ Q := ev_A1 d54_11 rfl
theorem d54_14 : decode (ab_C 54) 14 = .ok (.iand, 1) := by decide +kernel
theorem e54_14 {d : Nat} {l0 : Option Value} {s0 : Int32} {s1 : Int32} {σ : ab_St} {Q : Option Value → ab_St → Prop} : Ev d 54 14 [l0] [.int s0, .int s1] σ Q = Ev d 54 15 [l0] [.int (s1 &&& s0)] σ Q := ev_A2 d54_14 rfl rfl
theorem d54_15 : decode (ab_C 54) 15 = .ok (.iload_n 0, 1) := by decide +kernel
theorem e54_15 {d : Nat} {x : Int32} {s0 : Int32} {σ : ab_St} {Q : Option Value → ab_St → Prop} : Ev d 54 15 [some (.int x)] [.int s0] σ Q = Ev d 54 16 [some (.int x)] [.int x, .int s0] σ Q := ev_A1 d54_15 rfl
theorem d54_16 : decode (ab_C 54) 16 = .ok (.iconst 2, 1) := by decide +kernel
theorem e54_16 {d : Nat} {l0 : Option Value} {s0 : Int32} {s1 : Int32} {σ : ab_St} {Q : Option Value → ab_St → Prop} : Ev d 54 16 [l0] [.int s0, .int s1] σ Q = Ev d 54 17 [l0] [.int 2, .int s0, .int s1] σ Q := ev_A1 d54_16 rfl
theorem d54_17 : decode (ab_C 54) 17 = .ok (.iushr, 1) := by decide +kernel
theorem e54_17 {d : Nat} {l0 : Option Value} {s0 : Int32} {s1 : Int32} {s2 : Int32} {σ : ab_St} {Q : Option Value → ab_St → Prop} : Ev d 54 17 [l0] [.int s0, .int s1, .int s2] σ Q = Ev d 54 18 [l0] [.int ((s1.toUInt32 >>> (s0.toUInt32 &&& Int32.toUInt32 31)).toInt32), .int s2] σ Q := ev_A2 d54_17 rfl rfl
theorem d54_18 : decode (ab_C 54) 18 = .ok (.ldc_w 266, 3) := by decide +kernel
theorem e54_18 {d : Nat} {l0 : Option Value} {s0 : Int32} {s1 : Int32} {σ : ab_St} {Q : Option Value → ab_St → Prop} : Ev d 54 18 [l0] [.int s0, .int s1] σ Q = Ev d 54 21 [l0] [.int 858993459, .int s0, .int s1] σ Q := ev_A1 d54_18 rfl
theorem d54_21 : decode (ab_C 54) 21 = .ok (.iand, 1) := by decide +kernel
theorem e54_21 {d : Nat} {l0 : Option Value} {s0 : Int32} {s1 : Int32} {s2 : Int32} {σ : ab_St} {Q : Option Value → ab_St → Prop} : Ev d 54 21 [l0] [.int s0, .int s1, .int s2] σ Q = Ev d 54 22 [l0] [.int (s1 &&& s0), .int s2] σ Q := ev_A2 d54_21 rfl rfl
theorem d54_22 : decode (ab_C 54) 22 = .ok (.iadd, 1) := by decide +kernel
theorem e54_22 {d : Nat} {l0 : Option Value} {s0 : Int32} {s1 : Int32} {σ : ab_St} {Q : Option Value → ab_St → Prop} : Ev d 54 22 [l0] [.int s0, .int s1] σ Q = Ev d 54 23 [l0] [.int (s1 + s0)] σ Q := ev_A2 d54_22 rfl rfl
theorem d54_23 : decode (ab_C 54) 23 = .ok (.istore_n 0, 1) := by decide +kernel
theorem e54_23 {d : Nat} {l0 : Option Value} {s0 : Int32} {σ : ab_St} {Q : Option Value → ab_St → Prop} : Ev d 54 23 [l0] [.int s0] σ Q = Ev d 54 24 [some (.int s0)] [] σ Q := ev_S d54_23 rfl rfl rfl rfl
theorem d54_24 : decode (ab_C 54) 24 = .ok (.iload_n 0, 1) := by decide +kernel
theorem e54_24 {d : Nat} {x : Int32} {σ : ab_St} {Q : Option Value → ab_St → Prop} : Ev d 54 24 [some (.int x)] [] σ Q = Ev d 54 25 [some (.int x)] [.int x] σ Q := ev_A1 d54_24 rfl
theorem d54_25 : decode (ab_C 54) 25 = .ok (.iload_n 0, 1) := by decide +kernel
theorem e54_25 {d : Nat} {x : Int32} {s0 : Int32} {σ : ab_St} {Q : Option Value → ab_St → Prop} : Ev d 54 25 [some (.int x)] [.int s0] σ Q = Ev d 54 26 [some (.int x)] [.int x, .int s0] σ Q := ev_A1 d54_25 rfl
theorem d54_26 : decode (ab_C 54) 26 = .ok (.iconst 4, 1) := by decide +kernel
theorem e54_26 {d : Nat} {l0 : Option Value} {s0 : Int32} {s1 : Int32} {σ : ab_St} {Q : Option Value → ab_St → Prop} : Ev d 54 26 [l0] [.int s0, .int s1] σ Q = Ev d 54 27 [l0] [.int 4, .int s0, .int s1] σ Q := ev_A1 d54_26 rfl
theorem d54_27 : decode (ab_C 54) 27 = .ok (.iushr, 1) := by decide +kernel
theorem e54_27 {d : Nat} {l0 : Option Value} {s0 : Int32} {s1 : Int32} {s2 : Int32} {σ : ab_St} {Q : Option Value → ab_St → Prop} : Ev d 54 27 [l0] [.int s0, .int s1, .int s2] σ Q = Ev d 54 28 [l0] [.int ((s1.toUInt32 >>> (s0.toUInt32 &&& Int32.toUInt32 31)).toInt32), .int s2] σ Q := ev_A2 d54_27 rfl rfl
theorem d54_28 : decode (ab_C 54) 28 = .ok (.iadd, 1) := by decide +kernel
theorem e54_28 {d : Nat} {l0 : Option Value} {s0 : Int32} {s1 : Int32} {σ : ab_St} {Q : Option Value → ab_St → Prop} : Ev d 54 28 [l0] [.int s0, .int s1] σ Q = Ev d 54 29 [l0] [.int (s1 + s0)] σ Q := ev_A2 d54_28 rfl rfl
theorem d54_29 : decode (ab_C 54) 29 = .ok (.ldc_w 267, 3) := by decide +kernel
theorem e54_29 {d : Nat} {l0 : Option Value} {s0 : Int32} {σ : ab_St} {Q : Option Value → ab_St → Prop} : Ev d 54 29 [l0] [.int s0] σ Q = Ev d 54 32 [l0] [.int 252645135, .int s0] σ Q := ev_A1 d54_29 rfl
theorem d54_32 : decode (ab_C 54) 32 = .ok (.iand, 1) := by decide +kernel
theorem e54_32 {d : Nat} {l0 : Option Value} {s0 : Int32} {s1 : Int32} {σ : ab_St} {Q : Option Value → ab_St → Prop} : Ev d 54 32 [l0] [.int s0, .int s1] σ Q = Ev d 54 33 [l0] [.int (s1 &&& s0)] σ Q := ev_A2 d54_32 rfl rfl
theorem d54_33 : decode (ab_C 54) 33 = .ok (.istore_n 0, 1) := by decide +kernel
theorem e54_33 {d : Nat} {l0 : Option Value} {s0 : Int32} {σ : ab_St} {Q : Option Value → ab_St → Prop} : Ev d 54 33 [l0] [.int s0] σ Q = Ev d 54 34 [some (.int s0)] [] σ Q := ev_S d54_33 rfl rfl rfl rfl
theorem d54_34 : decode (ab_C 54) 34 = .ok (.iload_n 0, 1) := by decide +kernel
theorem e54_34 {d : Nat} {x : Int32} {σ : ab_St} {Q : Option Value → ab_St → Prop} : Ev d 54 34 [some (.int x)] [] σ Q = Ev d 54 35 [some (.int x)] [.int x] σ Q := ev_A1 d54_34 rfl
theorem d54_35 : decode (ab_C 54) 35 = .ok (.iload_n 0, 1) := by decide +kernel
theorem e54_35 {d : Nat} {x : Int32} {s0 : Int32} {σ : ab_St} {Q : Option Value → ab_St → Prop} : Ev d 54 35 [some (.int x)] [.int s0] σ Q = Ev d 54 36 [some (.int x)] [.int x, .int s0] σ Q := ev_A1 d54_35 rfl
theorem d54_36 : decode (ab_C 54) 36 = .ok (.bipush 8, 2) := by decide +kernel
theorem e54_36 {d : Nat} {l0 : Option Value} {s0 : Int32} {s1 : Int32} {σ : ab_St} {Q : Option Value → ab_St → Prop} : Ev d 54 36 [l0] [.int s0, .int s1] σ Q = Ev d 54 38 [l0] [.int 8, .int s0, .int s1] σ Q := ev_A1 d54_36 rfl
theorem d54_38 : decode (ab_C 54) 38 = .ok (.iushr, 1) := by decide +kernel
theorem e54_38 {d : Nat} {l0 : Option Value} {s0 : Int32} {s1 : Int32} {s2 : Int32} {σ : ab_St} {Q : Option Value → ab_St → Prop} : Ev d 54 38 [l0] [.int s0, .int s1, .int s2] σ Q = Ev d 54 39 [l0] [.int ((s1.toUInt32 >>> (s0.toUInt32 &&& Int32.toUInt32 31)).toInt32), .int s2] σ Q := ev_A2 d54_38 rfl rfl
theorem d54_39 : decode (ab_C 54) 39 = .ok (.iadd, 1) := by decide +kernel
theorem e54_39 {d : Nat} {l0 : Option Value} {s0 : Int32} {s1 : Int32} {σ : ab_St} {Q : Option Value → ab_St → Prop} : Ev d 54 39 [l0] [.int s0, .int s1] σ Q = Ev d 54 40 [l0] [.int (s1 + s0)] σ Q := ev_A2 d54_39 rfl rfl
theorem d54_40 : decode (ab_C 54) 40 = .ok (.istore_n 0, 1) := by decide +kernel
theorem e54_40 {d : Nat} {l0 : Option Value} {s0 : Int32} {σ : ab_St} {Q : Option Value → ab_St → Prop} : Ev d 54 40 [l0] [.int s0] σ Q = Ev d 54 41 [some (.int s0)] [] σ Q := ev_S d54_40 rfl rfl rfl rfl
theorem d54_41 : decode (ab_C 54) 41 = .ok (.iload_n 0, 1) := by decide +kernel
theorem e54_41 {d : Nat} {x : Int32} {σ : ab_St} {Q : Option Value → ab_St → Prop} : Ev d 54 41 [some (.int x)] [] σ Q = Ev d 54 42 [some (.int x)] [.int x] σ Q := ev_A1 d54_41 rfl
theorem d54_42 : decode (ab_C 54) 42 = .ok (.iload_n 0, 1) := by decide +kernel
theorem e54_42 {d : Nat} {x : Int32} {s0 : Int32} {σ : ab_St} {Q : Option Value → ab_St → Prop} : Ev d 54 42 [some (.int x)] [.int s0] σ Q = Ev d 54 43 [some (.int x)] [.int x, .int s0] σ Q := ev_A1 d54_42 rfl
theorem d54_43 : decode (ab_C 54) 43 = .ok (.bipush 16, 2) := by decide +kernel
theorem e54_43 {d : Nat} {l0 : Option Value} {s0 : Int32} {s1 : Int32} {σ : ab_St} {Q : Option Value → ab_St → Prop} : Ev d 54 43 [l0] [.int s0, .int s1] σ Q = Ev d 54 45 [l0] [.int 16, .int s0, .int s1] σ Q := ev_A1 d54_43 rfl
theorem d54_45 : decode (ab_C 54) 45 = .ok (.iushr, 1) := by decide +kernel
theorem e54_45 {d : Nat} {l0 : Option Value} {s0 : Int32} {s1 : Int32} {s2 : Int32} {σ : ab_St} {Q : Option Value → ab_St → Prop} : Ev d 54 45 [l0] [.int s0, .int s1, .int s2] σ Q = Ev d 54 46 [l0] [.int ((s1.toUInt32 >>> (s0.toUInt32 &&& Int32.toUInt32 31)).toInt32), .int s2] σ Q := ev_A2 d54_45 rfl rfl
theorem d54_46 : decode (ab_C 54) 46 = .ok (.iadd, 1) := by decide +kernel
theorem e54_46 {d : Nat} {l0 : Option Value} {s0 : Int32} {s1 : Int32} {σ : ab_St} {Q : Option Value → ab_St → Prop} : Ev d 54 46 [l0] [.int s0, .int s1] σ Q = Ev d 54 47 [l0] [.int (s1 + s0)] σ Q := ev_A2 d54_46 rfl rfl
theorem d54_47 : decode (ab_C 54) 47 = .ok (.istore_n 0, 1) := by decide +kernel
theorem e54_47 {d : Nat} {l0 : Option Value} {s0 : Int32} {σ : ab_St} {Q : Option Value → ab_St → Prop} : Ev d 54 47 [l0] [.int s0] σ Q = Ev d 54 48 [some (.int s0)] [] σ Q := ev_S d54_47 rfl rfl rfl rfl
theorem d54_48 : decode (ab_C 54) 48 = .ok (.iload_n 0, 1) := by decide +kernel
theorem e54_48 {d : Nat} {x : Int32} {σ : ab_St} {Q : Option Value → ab_St → Prop} : Ev d 54 48 [some (.int x)] [] σ Q = Ev d 54 49 [some (.int x)] [.int x] σ Q := ev_A1 d54_48 rfl
theorem d54_49 : decode (ab_C 54) 49 = .ok (.bipush 63, 2) := by decide +kernel
theorem e54_49 {d : Nat} {l0 : Option Value} {s0 : Int32} {σ : ab_St} {Q : Option Value → ab_St → Prop} : Ev d 54 49 [l0] [.int s0] σ Q = Ev d 54 51 [l0] [.int 63, .int s0] σ Q := ev_A1 d54_49 rfl
theorem d54_51 : decode (ab_C 54) 51 = .ok (.iand, 1) := by decide +kernel
theorem e54_51 {d : Nat} {l0 : Option Value} {s0 : Int32} {s1 : Int32} {σ : ab_St} {Q : Option Value → ab_St → Prop} : Ev d 54 51 [l0] [.int s0, .int s1] σ Q = Ev d 54 52 [l0] [.int (s1 &&& s0)] σ Q := ev_A2 d54_51 rfl rfl
theorem d54_52 : decode (ab_C 54) 52 = .ok (.ireturn, 1) := by decide +kernel
theorem e54_52 {d : Nat} {l0 : Option Value} {s0 : Int32} {σ : ab_St} {Q : Option Value → ab_St → Prop} : Ev d 54 52 [l0] [.int s0] σ Q = Q (some (.int s0)) σ := ev_E d54_52 rfl rfl rfl rfl rfl rfl rfl
