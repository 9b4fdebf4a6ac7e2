/-! THE STORE AT THE BEGINNING -/
def s0 : ab_St := (fun c => if c = 9 ∨ c = 16 ∨ c = 18 ∨ c = 27 ∨ c = 29 ∨ c = 33 ∨ c = 42 ∨ c = 48 then (fun k => if k = 3 then -9 else 0) else if c = 50 then (fun k => if k = 14 then -9 else 0) else fun _ => 0, fun c => if c = 46 then (fun k => if k = 3 then 1 else 0) else fun _ => 0)
theorem s0_inv : Inv 99 s0 := by
  refine ⟨0, fun _ => 0, (0, 0, fun _ => 0, fun _ => 0, fun _ => 0, fun _ => 0), fun _ => 0, 0, 0, -9, 0, ⟨⟨by decide, by decide, fun s h => absurd h (Nat.not_lt_zero s)⟩, ⟨by decide, rfl, rfl, fun j h => absurd h (Nat.not_lt_zero j)⟩, ⟨rfl, rfl, fun s h => absurd h (Nat.not_lt_zero s)⟩, ⟨rfl, rfl, fun s h => absurd h (Nat.not_lt_zero s)⟩, ⟨by decide, by decide, Or.inl rfl, by decide, fun p h => absurd h (Nat.not_lt_zero p)⟩, ⟨fun p h => absurd h (Nat.not_lt_zero p), rfl, rfl, rfl, rfl, rfl, rfl, rfl, rfl⟩, rfl, rfl⟩, ⟨0, 0, fun _ => 0, fun _ _ => 0, fun _ => 0, fun _ => 0, fun _ => 0, by decide, by decide, rfl, rfl, rfl, fun i h => absurd h (Nat.not_lt_zero i), fun p h => absurd h (Nat.not_lt_zero p), fun i h => absurd h (Nat.not_lt_zero i)⟩, 0, by decide, rfl, ⟨rfl, rfl⟩, (fun h => by cases h), (fun h => by cases h)⟩
/-- the addresses -/
def s0_ad (h0 : Nat) (q : Nat → Nat) (h1 : Nat) (q1 : Nat → Nat) (t : Nat) : Nat → Nat := fun c => if c = 0 then h0 else if c < 50 then q (c - 1) else if c = 50 then h1 else if c < 72 then q1 (c - 51) else t
theorem s0_e0 (cA : Nat → ClassId) (h0 : Nat) (q : Nat → Nat) (h1 : Nat) (q1 : Nat → Nat) (t : Nat) : (cw0 cA h0 q)[0]? = some ((s0_ad h0 q h1 q1 t) 0, ab_ce (s0_ad h0 q h1 q1 t) cA s0 0 (ab_s 0)) := rfl
theorem s0_e1 (cA : Nat → ClassId) (h0 : Nat) (q : Nat → Nat) (h1 : Nat) (q1 : Nat → Nat) (t : Nat) : (cw0 cA h0 q)[1]? = some ((s0_ad h0 q h1 q1 t) 1, ab_ce (s0_ad h0 q h1 q1 t) cA s0 1 (ab_s 1)) := rfl
theorem s0_e2 (cA : Nat → ClassId) (h0 : Nat) (q : Nat → Nat) (h1 : Nat) (q1 : Nat → Nat) (t : Nat) : (cw0 cA h0 q)[2]? = some ((s0_ad h0 q h1 q1 t) 2, ab_ce (s0_ad h0 q h1 q1 t) cA s0 2 (ab_s 2)) := rfl
theorem s0_e3 (cA : Nat → ClassId) (h0 : Nat) (q : Nat → Nat) (h1 : Nat) (q1 : Nat → Nat) (t : Nat) : (cw0 cA h0 q)[3]? = some ((s0_ad h0 q h1 q1 t) 3, ab_ce (s0_ad h0 q h1 q1 t) cA s0 3 (ab_s 3)) := rfl
theorem s0_e4 (cA : Nat → ClassId) (h0 : Nat) (q : Nat → Nat) (h1 : Nat) (q1 : Nat → Nat) (t : Nat) : (cw0 cA h0 q)[4]? = some ((s0_ad h0 q h1 q1 t) 4, ab_ce (s0_ad h0 q h1 q1 t) cA s0 4 (ab_s 4)) := rfl
theorem s0_e5 (cA : Nat → ClassId) (h0 : Nat) (q : Nat → Nat) (h1 : Nat) (q1 : Nat → Nat) (t : Nat) : (cw0 cA h0 q)[5]? = some ((s0_ad h0 q h1 q1 t) 5, ab_ce (s0_ad h0 q h1 q1 t) cA s0 5 (ab_s 5)) := rfl
theorem s0_e6 (cA : Nat → ClassId) (h0 : Nat) (q : Nat → Nat) (h1 : Nat) (q1 : Nat → Nat) (t : Nat) : (cw0 cA h0 q)[6]? = some ((s0_ad h0 q h1 q1 t) 6, ab_ce (s0_ad h0 q h1 q1 t) cA s0 6 (ab_s 6)) := rfl
theorem s0_e7 (cA : Nat → ClassId) (h0 : Nat) (q : Nat → Nat) (h1 : Nat) (q1 : Nat → Nat) (t : Nat) : (cw0 cA h0 q)[7]? = some ((s0_ad h0 q h1 q1 t) 7, ab_ce (s0_ad h0 q h1 q1 t) cA s0 7 (ab_s 7)) := rfl
theorem s0_e8 (cA : Nat → ClassId) (h0 : Nat) (q : Nat → Nat) (h1 : Nat) (q1 : Nat → Nat) (t : Nat) : (cw0 cA h0 q)[8]? = some ((s0_ad h0 q h1 q1 t) 8, ab_ce (s0_ad h0 q h1 q1 t) cA s0 8 (ab_s 8)) := rfl
theorem s0_e9 (cA : Nat → ClassId) (h0 : Nat) (q : Nat → Nat) (h1 : Nat) (q1 : Nat → Nat) (t : Nat) : (cw0 cA h0 q)[9]? = some ((s0_ad h0 q h1 q1 t) 9, ab_ce (s0_ad h0 q h1 q1 t) cA s0 9 (ab_s 9)) := rfl
theorem s0_e10 (cA : Nat → ClassId) (h0 : Nat) (q : Nat → Nat) (h1 : Nat) (q1 : Nat → Nat) (t : Nat) : (cw0 cA h0 q)[10]? = some ((s0_ad h0 q h1 q1 t) 10, ab_ce (s0_ad h0 q h1 q1 t) cA s0 10 (ab_s 10)) := rfl
theorem s0_e11 (cA : Nat → ClassId) (h0 : Nat) (q : Nat → Nat) (h1 : Nat) (q1 : Nat → Nat) (t : Nat) : (cw0 cA h0 q)[11]? = some ((s0_ad h0 q h1 q1 t) 11, ab_ce (s0_ad h0 q h1 q1 t) cA s0 11 (ab_s 11)) := rfl
theorem s0_e12 (cA : Nat → ClassId) (h0 : Nat) (q : Nat → Nat) (h1 : Nat) (q1 : Nat → Nat) (t : Nat) : (cw0 cA h0 q)[12]? = some ((s0_ad h0 q h1 q1 t) 12, ab_ce (s0_ad h0 q h1 q1 t) cA s0 12 (ab_s 12)) := rfl
theorem s0_e13 (cA : Nat → ClassId) (h0 : Nat) (q : Nat → Nat) (h1 : Nat) (q1 : Nat → Nat) (t : Nat) : (cw0 cA h0 q)[13]? = some ((s0_ad h0 q h1 q1 t) 13, ab_ce (s0_ad h0 q h1 q1 t) cA s0 13 (ab_s 13)) := rfl
theorem s0_e14 (cA : Nat → ClassId) (h0 : Nat) (q : Nat → Nat) (h1 : Nat) (q1 : Nat → Nat) (t : Nat) : (cw0 cA h0 q)[14]? = some ((s0_ad h0 q h1 q1 t) 14, ab_ce (s0_ad h0 q h1 q1 t) cA s0 14 (ab_s 14)) := rfl
theorem s0_e15 (cA : Nat → ClassId) (h0 : Nat) (q : Nat → Nat) (h1 : Nat) (q1 : Nat → Nat) (t : Nat) : (cw0 cA h0 q)[15]? = some ((s0_ad h0 q h1 q1 t) 15, ab_ce (s0_ad h0 q h1 q1 t) cA s0 15 (ab_s 15)) := rfl
theorem s0_e16 (cA : Nat → ClassId) (h0 : Nat) (q : Nat → Nat) (h1 : Nat) (q1 : Nat → Nat) (t : Nat) : (cw0 cA h0 q)[16]? = some ((s0_ad h0 q h1 q1 t) 16, ab_ce (s0_ad h0 q h1 q1 t) cA s0 16 (ab_s 16)) := rfl
theorem s0_e17 (cA : Nat → ClassId) (h0 : Nat) (q : Nat → Nat) (h1 : Nat) (q1 : Nat → Nat) (t : Nat) : (cw0 cA h0 q)[17]? = some ((s0_ad h0 q h1 q1 t) 17, ab_ce (s0_ad h0 q h1 q1 t) cA s0 17 (ab_s 17)) := rfl
theorem s0_e18 (cA : Nat → ClassId) (h0 : Nat) (q : Nat → Nat) (h1 : Nat) (q1 : Nat → Nat) (t : Nat) : (cw0 cA h0 q)[18]? = some ((s0_ad h0 q h1 q1 t) 18, ab_ce (s0_ad h0 q h1 q1 t) cA s0 18 (ab_s 18)) := rfl
theorem s0_e19 (cA : Nat → ClassId) (h0 : Nat) (q : Nat → Nat) (h1 : Nat) (q1 : Nat → Nat) (t : Nat) : (cw0 cA h0 q)[19]? = some ((s0_ad h0 q h1 q1 t) 19, ab_ce (s0_ad h0 q h1 q1 t) cA s0 19 (ab_s 19)) := rfl
theorem s0_e20 (cA : Nat → ClassId) (h0 : Nat) (q : Nat → Nat) (h1 : Nat) (q1 : Nat → Nat) (t : Nat) : (cw0 cA h0 q)[20]? = some ((s0_ad h0 q h1 q1 t) 20, ab_ce (s0_ad h0 q h1 q1 t) cA s0 20 (ab_s 20)) := rfl
theorem s0_e21 (cA : Nat → ClassId) (h0 : Nat) (q : Nat → Nat) (h1 : Nat) (q1 : Nat → Nat) (t : Nat) : (cw0 cA h0 q)[21]? = some ((s0_ad h0 q h1 q1 t) 21, ab_ce (s0_ad h0 q h1 q1 t) cA s0 21 (ab_s 21)) := rfl
theorem s0_e22 (cA : Nat → ClassId) (h0 : Nat) (q : Nat → Nat) (h1 : Nat) (q1 : Nat → Nat) (t : Nat) : (cw0 cA h0 q)[22]? = some ((s0_ad h0 q h1 q1 t) 22, ab_ce (s0_ad h0 q h1 q1 t) cA s0 22 (ab_s 22)) := rfl
theorem s0_e23 (cA : Nat → ClassId) (h0 : Nat) (q : Nat → Nat) (h1 : Nat) (q1 : Nat → Nat) (t : Nat) : (cw0 cA h0 q)[23]? = some ((s0_ad h0 q h1 q1 t) 23, ab_ce (s0_ad h0 q h1 q1 t) cA s0 23 (ab_s 23)) := rfl
theorem s0_e24 (cA : Nat → ClassId) (h0 : Nat) (q : Nat → Nat) (h1 : Nat) (q1 : Nat → Nat) (t : Nat) : (cw0 cA h0 q)[24]? = some ((s0_ad h0 q h1 q1 t) 24, ab_ce (s0_ad h0 q h1 q1 t) cA s0 24 (ab_s 24)) := rfl
theorem s0_e25 (cA : Nat → ClassId) (h0 : Nat) (q : Nat → Nat) (h1 : Nat) (q1 : Nat → Nat) (t : Nat) : (cw0 cA h0 q)[25]? = some ((s0_ad h0 q h1 q1 t) 25, ab_ce (s0_ad h0 q h1 q1 t) cA s0 25 (ab_s 25)) := rfl
theorem s0_e27 (cA : Nat → ClassId) (h0 : Nat) (q : Nat → Nat) (h1 : Nat) (q1 : Nat → Nat) (t : Nat) : (cw0 cA h0 q)[27]? = some ((s0_ad h0 q h1 q1 t) 27, ab_ce (s0_ad h0 q h1 q1 t) cA s0 27 (ab_s 27)) := rfl
theorem s0_e28 (cA : Nat → ClassId) (h0 : Nat) (q : Nat → Nat) (h1 : Nat) (q1 : Nat → Nat) (t : Nat) : (cw0 cA h0 q)[28]? = some ((s0_ad h0 q h1 q1 t) 28, ab_ce (s0_ad h0 q h1 q1 t) cA s0 28 (ab_s 28)) := rfl
theorem s0_e29 (cA : Nat → ClassId) (h0 : Nat) (q : Nat → Nat) (h1 : Nat) (q1 : Nat → Nat) (t : Nat) : (cw0 cA h0 q)[29]? = some ((s0_ad h0 q h1 q1 t) 29, ab_ce (s0_ad h0 q h1 q1 t) cA s0 29 (ab_s 29)) := rfl
theorem s0_e30 (cA : Nat → ClassId) (h0 : Nat) (q : Nat → Nat) (h1 : Nat) (q1 : Nat → Nat) (t : Nat) : (cw0 cA h0 q)[30]? = some ((s0_ad h0 q h1 q1 t) 30, ab_ce (s0_ad h0 q h1 q1 t) cA s0 30 (ab_s 30)) := rfl
theorem s0_e31 (cA : Nat → ClassId) (h0 : Nat) (q : Nat → Nat) (h1 : Nat) (q1 : Nat → Nat) (t : Nat) : (cw0 cA h0 q)[31]? = some ((s0_ad h0 q h1 q1 t) 31, ab_ce (s0_ad h0 q h1 q1 t) cA s0 31 (ab_s 31)) := rfl
theorem s0_e32 (cA : Nat → ClassId) (h0 : Nat) (q : Nat → Nat) (h1 : Nat) (q1 : Nat → Nat) (t : Nat) : (cw0 cA h0 q)[32]? = some ((s0_ad h0 q h1 q1 t) 32, ab_ce (s0_ad h0 q h1 q1 t) cA s0 32 (ab_s 32)) := rfl
theorem s0_e33 (cA : Nat → ClassId) (h0 : Nat) (q : Nat → Nat) (h1 : Nat) (q1 : Nat → Nat) (t : Nat) : (cw0 cA h0 q)[33]? = some ((s0_ad h0 q h1 q1 t) 33, ab_ce (s0_ad h0 q h1 q1 t) cA s0 33 (ab_s 33)) := rfl
theorem s0_e34 (cA : Nat → ClassId) (h0 : Nat) (q : Nat → Nat) (h1 : Nat) (q1 : Nat → Nat) (t : Nat) : (cw0 cA h0 q)[34]? = some ((s0_ad h0 q h1 q1 t) 34, ab_ce (s0_ad h0 q h1 q1 t) cA s0 34 (ab_s 34)) := rfl
theorem s0_e35 (cA : Nat → ClassId) (h0 : Nat) (q : Nat → Nat) (h1 : Nat) (q1 : Nat → Nat) (t : Nat) : (cw0 cA h0 q)[35]? = some ((s0_ad h0 q h1 q1 t) 35, ab_ce (s0_ad h0 q h1 q1 t) cA s0 35 (ab_s 35)) := rfl
theorem s0_e36 (cA : Nat → ClassId) (h0 : Nat) (q : Nat → Nat) (h1 : Nat) (q1 : Nat → Nat) (t : Nat) : (cw0 cA h0 q)[36]? = some ((s0_ad h0 q h1 q1 t) 36, ab_ce (s0_ad h0 q h1 q1 t) cA s0 36 (ab_s 36)) := rfl
theorem s0_e37 (cA : Nat → ClassId) (h0 : Nat) (q : Nat → Nat) (h1 : Nat) (q1 : Nat → Nat) (t : Nat) : (cw0 cA h0 q)[37]? = some ((s0_ad h0 q h1 q1 t) 37, ab_ce (s0_ad h0 q h1 q1 t) cA s0 37 (ab_s 37)) := rfl
theorem s0_e38 (cA : Nat → ClassId) (h0 : Nat) (q : Nat → Nat) (h1 : Nat) (q1 : Nat → Nat) (t : Nat) : (cw0 cA h0 q)[38]? = some ((s0_ad h0 q h1 q1 t) 38, ab_ce (s0_ad h0 q h1 q1 t) cA s0 38 (ab_s 38)) := rfl
theorem s0_e39 (cA : Nat → ClassId) (h0 : Nat) (q : Nat → Nat) (h1 : Nat) (q1 : Nat → Nat) (t : Nat) : (cw0 cA h0 q)[39]? = some ((s0_ad h0 q h1 q1 t) 39, ab_ce (s0_ad h0 q h1 q1 t) cA s0 39 (ab_s 39)) := rfl
theorem s0_e40 (cA : Nat → ClassId) (h0 : Nat) (q : Nat → Nat) (h1 : Nat) (q1 : Nat → Nat) (t : Nat) : (cw0 cA h0 q)[40]? = some ((s0_ad h0 q h1 q1 t) 40, ab_ce (s0_ad h0 q h1 q1 t) cA s0 40 (ab_s 40)) := rfl
theorem s0_e41 (cA : Nat → ClassId) (h0 : Nat) (q : Nat → Nat) (h1 : Nat) (q1 : Nat → Nat) (t : Nat) : (cw0 cA h0 q)[41]? = some ((s0_ad h0 q h1 q1 t) 41, ab_ce (s0_ad h0 q h1 q1 t) cA s0 41 (ab_s 41)) := rfl
theorem s0_e42 (cA : Nat → ClassId) (h0 : Nat) (q : Nat → Nat) (h1 : Nat) (q1 : Nat → Nat) (t : Nat) : (cw0 cA h0 q)[42]? = some ((s0_ad h0 q h1 q1 t) 42, ab_ce (s0_ad h0 q h1 q1 t) cA s0 42 (ab_s 42)) := rfl
theorem s0_e43 (cA : Nat → ClassId) (h0 : Nat) (q : Nat → Nat) (h1 : Nat) (q1 : Nat → Nat) (t : Nat) : (cw0 cA h0 q)[43]? = some ((s0_ad h0 q h1 q1 t) 43, ab_ce (s0_ad h0 q h1 q1 t) cA s0 43 (ab_s 43)) := rfl
theorem s0_e44 (cA : Nat → ClassId) (h0 : Nat) (q : Nat → Nat) (h1 : Nat) (q1 : Nat → Nat) (t : Nat) : (cw0 cA h0 q)[44]? = some ((s0_ad h0 q h1 q1 t) 44, ab_ce (s0_ad h0 q h1 q1 t) cA s0 44 (ab_s 44)) := rfl
theorem s0_e45 (cA : Nat → ClassId) (h0 : Nat) (q : Nat → Nat) (h1 : Nat) (q1 : Nat → Nat) (t : Nat) : (cw0 cA h0 q)[45]? = some ((s0_ad h0 q h1 q1 t) 45, ab_ce (s0_ad h0 q h1 q1 t) cA s0 45 (ab_s 45)) := rfl
theorem s0_e46 (cA : Nat → ClassId) (h0 : Nat) (q : Nat → Nat) (h1 : Nat) (q1 : Nat → Nat) (t : Nat) : (cw0 cA h0 q)[46]? = some ((s0_ad h0 q h1 q1 t) 46, ab_ce (s0_ad h0 q h1 q1 t) cA s0 46 (ab_s 46)) := rfl
theorem s0_e47 (cA : Nat → ClassId) (h0 : Nat) (q : Nat → Nat) (h1 : Nat) (q1 : Nat → Nat) (t : Nat) : (cw0 cA h0 q)[47]? = some ((s0_ad h0 q h1 q1 t) 47, ab_ce (s0_ad h0 q h1 q1 t) cA s0 47 (ab_s 47)) := rfl
theorem s0_e48 (cA : Nat → ClassId) (h0 : Nat) (q : Nat → Nat) (h1 : Nat) (q1 : Nat → Nat) (t : Nat) : (cw0 cA h0 q)[48]? = some ((s0_ad h0 q h1 q1 t) 48, ab_ce (s0_ad h0 q h1 q1 t) cA s0 48 (ab_s 48)) := rfl
theorem s0_e49 (cA : Nat → ClassId) (h0 : Nat) (q : Nat → Nat) (h1 : Nat) (q1 : Nat → Nat) (t : Nat) : (cw0 cA h0 q)[49]? = some ((s0_ad h0 q h1 q1 t) 49, ab_ce (s0_ad h0 q h1 q1 t) cA s0 49 (ab_s 49)) := rfl
theorem s0_e50 (cA : Nat → ClassId) (h0 : Nat) (q : Nat → Nat) (h1 : Nat) (q1 : Nat → Nat) (t : Nat) : (cw99 cA h1 q1)[0]? = some ((s0_ad h0 q h1 q1 t) 50, ab_ce (s0_ad h0 q h1 q1 t) cA s0 50 (ab_s 50)) := rfl
theorem s0_e51 (cA : Nat → ClassId) (h0 : Nat) (q : Nat → Nat) (h1 : Nat) (q1 : Nat → Nat) (t : Nat) : (cw99 cA h1 q1)[1]? = some ((s0_ad h0 q h1 q1 t) 51, ab_ce (s0_ad h0 q h1 q1 t) cA s0 51 (ab_s 51)) := rfl
theorem s0_e52 (cA : Nat → ClassId) (h0 : Nat) (q : Nat → Nat) (h1 : Nat) (q1 : Nat → Nat) (t : Nat) : (cw99 cA h1 q1)[2]? = some ((s0_ad h0 q h1 q1 t) 52, ab_ce (s0_ad h0 q h1 q1 t) cA s0 52 (ab_s 52)) := rfl
theorem s0_e53 (cA : Nat → ClassId) (h0 : Nat) (q : Nat → Nat) (h1 : Nat) (q1 : Nat → Nat) (t : Nat) : (cw99 cA h1 q1)[3]? = some ((s0_ad h0 q h1 q1 t) 53, ab_ce (s0_ad h0 q h1 q1 t) cA s0 53 (ab_s 53)) := rfl
theorem s0_e54 (cA : Nat → ClassId) (h0 : Nat) (q : Nat → Nat) (h1 : Nat) (q1 : Nat → Nat) (t : Nat) : (cw99 cA h1 q1)[4]? = some ((s0_ad h0 q h1 q1 t) 54, ab_ce (s0_ad h0 q h1 q1 t) cA s0 54 (ab_s 54)) := rfl
theorem s0_e55 (cA : Nat → ClassId) (h0 : Nat) (q : Nat → Nat) (h1 : Nat) (q1 : Nat → Nat) (t : Nat) : (cw99 cA h1 q1)[5]? = some ((s0_ad h0 q h1 q1 t) 55, ab_ce (s0_ad h0 q h1 q1 t) cA s0 55 (ab_s 55)) := rfl
theorem s0_e56 (cA : Nat → ClassId) (h0 : Nat) (q : Nat → Nat) (h1 : Nat) (q1 : Nat → Nat) (t : Nat) : (cw99 cA h1 q1)[6]? = some ((s0_ad h0 q h1 q1 t) 56, ab_ce (s0_ad h0 q h1 q1 t) cA s0 56 (ab_s 56)) := rfl
theorem s0_e57 (cA : Nat → ClassId) (h0 : Nat) (q : Nat → Nat) (h1 : Nat) (q1 : Nat → Nat) (t : Nat) : (cw99 cA h1 q1)[7]? = some ((s0_ad h0 q h1 q1 t) 57, ab_ce (s0_ad h0 q h1 q1 t) cA s0 57 (ab_s 57)) := rfl
theorem s0_e58 (cA : Nat → ClassId) (h0 : Nat) (q : Nat → Nat) (h1 : Nat) (q1 : Nat → Nat) (t : Nat) : (cw99 cA h1 q1)[8]? = some ((s0_ad h0 q h1 q1 t) 58, ab_ce (s0_ad h0 q h1 q1 t) cA s0 58 (ab_s 58)) := rfl
theorem s0_e59 (cA : Nat → ClassId) (h0 : Nat) (q : Nat → Nat) (h1 : Nat) (q1 : Nat → Nat) (t : Nat) : (cw99 cA h1 q1)[9]? = some ((s0_ad h0 q h1 q1 t) 59, ab_ce (s0_ad h0 q h1 q1 t) cA s0 59 (ab_s 59)) := rfl
theorem s0_e60 (cA : Nat → ClassId) (h0 : Nat) (q : Nat → Nat) (h1 : Nat) (q1 : Nat → Nat) (t : Nat) : (cw99 cA h1 q1)[10]? = some ((s0_ad h0 q h1 q1 t) 60, ab_ce (s0_ad h0 q h1 q1 t) cA s0 60 (ab_s 60)) := rfl
theorem s0_e61 (cA : Nat → ClassId) (h0 : Nat) (q : Nat → Nat) (h1 : Nat) (q1 : Nat → Nat) (t : Nat) : (cw99 cA h1 q1)[11]? = some ((s0_ad h0 q h1 q1 t) 61, ab_ce (s0_ad h0 q h1 q1 t) cA s0 61 (ab_s 61)) := rfl
theorem s0_e62 (cA : Nat → ClassId) (h0 : Nat) (q : Nat → Nat) (h1 : Nat) (q1 : Nat → Nat) (t : Nat) : (cw99 cA h1 q1)[12]? = some ((s0_ad h0 q h1 q1 t) 62, ab_ce (s0_ad h0 q h1 q1 t) cA s0 62 (ab_s 62)) := rfl
theorem s0_e63 (cA : Nat → ClassId) (h0 : Nat) (q : Nat → Nat) (h1 : Nat) (q1 : Nat → Nat) (t : Nat) : (cw99 cA h1 q1)[13]? = some ((s0_ad h0 q h1 q1 t) 63, ab_ce (s0_ad h0 q h1 q1 t) cA s0 63 (ab_s 63)) := rfl
theorem s0_e64 (cA : Nat → ClassId) (h0 : Nat) (q : Nat → Nat) (h1 : Nat) (q1 : Nat → Nat) (t : Nat) : (cw99 cA h1 q1)[14]? = some ((s0_ad h0 q h1 q1 t) 64, ab_ce (s0_ad h0 q h1 q1 t) cA s0 64 (ab_s 64)) := rfl
theorem s0_e65 (cA : Nat → ClassId) (h0 : Nat) (q : Nat → Nat) (h1 : Nat) (q1 : Nat → Nat) (t : Nat) : (cw99 cA h1 q1)[15]? = some ((s0_ad h0 q h1 q1 t) 65, ab_ce (s0_ad h0 q h1 q1 t) cA s0 65 (ab_s 65)) := rfl
theorem s0_e66 (cA : Nat → ClassId) (h0 : Nat) (q : Nat → Nat) (h1 : Nat) (q1 : Nat → Nat) (t : Nat) : (cw99 cA h1 q1)[16]? = some ((s0_ad h0 q h1 q1 t) 66, ab_ce (s0_ad h0 q h1 q1 t) cA s0 66 (ab_s 66)) := rfl
theorem s0_e67 (cA : Nat → ClassId) (h0 : Nat) (q : Nat → Nat) (h1 : Nat) (q1 : Nat → Nat) (t : Nat) : (cw99 cA h1 q1)[17]? = some ((s0_ad h0 q h1 q1 t) 67, ab_ce (s0_ad h0 q h1 q1 t) cA s0 67 (ab_s 67)) := rfl
theorem s0_e68 (cA : Nat → ClassId) (h0 : Nat) (q : Nat → Nat) (h1 : Nat) (q1 : Nat → Nat) (t : Nat) : (cw99 cA h1 q1)[18]? = some ((s0_ad h0 q h1 q1 t) 68, ab_ce (s0_ad h0 q h1 q1 t) cA s0 68 (ab_s 68)) := rfl
theorem s0_e69 (cA : Nat → ClassId) (h0 : Nat) (q : Nat → Nat) (h1 : Nat) (q1 : Nat → Nat) (t : Nat) : (cw99 cA h1 q1)[19]? = some ((s0_ad h0 q h1 q1 t) 69, ab_ce (s0_ad h0 q h1 q1 t) cA s0 69 (ab_s 69)) := rfl
theorem s0_e70 (cA : Nat → ClassId) (h0 : Nat) (q : Nat → Nat) (h1 : Nat) (q1 : Nat → Nat) (t : Nat) : (cw99 cA h1 q1)[20]? = some ((s0_ad h0 q h1 q1 t) 70, ab_ce (s0_ad h0 q h1 q1 t) cA s0 70 (ab_s 70)) := rfl
theorem s0_e71 (cA : Nat → ClassId) (h0 : Nat) (q : Nat → Nat) (h1 : Nat) (q1 : Nat → Nat) (t : Nat) : (cw99 cA h1 q1)[21]? = some ((s0_ad h0 q h1 q1 t) 71, ab_ce (s0_ad h0 q h1 q1 t) cA s0 71 (ab_s 71)) := rfl
theorem s0_c0 (cA : Nat → ClassId) (h0 : Nat) (q : Nat → Nat) (h1 : Nat) (q1 : Nat → Nat) (t : Nat) (k : Nat) (hk : k < 50) (hn : k ≠ 26) : (cw0 cA h0 q)[k]? = some (s0_ad h0 q h1 q1 t k, ab_ce (s0_ad h0 q h1 q1 t) cA s0 k (ab_s k)) := match k, hk, hn with
  | 0, _, _ => s0_e0 cA h0 q h1 q1 t
  | 1, _, _ => s0_e1 cA h0 q h1 q1 t
  | 2, _, _ => s0_e2 cA h0 q h1 q1 t
  | 3, _, _ => s0_e3 cA h0 q h1 q1 t
  | 4, _, _ => s0_e4 cA h0 q h1 q1 t
  | 5, _, _ => s0_e5 cA h0 q h1 q1 t
  | 6, _, _ => s0_e6 cA h0 q h1 q1 t
  | 7, _, _ => s0_e7 cA h0 q h1 q1 t
  | 8, _, _ => s0_e8 cA h0 q h1 q1 t
  | 9, _, _ => s0_e9 cA h0 q h1 q1 t
  | 10, _, _ => s0_e10 cA h0 q h1 q1 t
  | 11, _, _ => s0_e11 cA h0 q h1 q1 t
  | 12, _, _ => s0_e12 cA h0 q h1 q1 t
  | 13, _, _ => s0_e13 cA h0 q h1 q1 t
  | 14, _, _ => s0_e14 cA h0 q h1 q1 t
  | 15, _, _ => s0_e15 cA h0 q h1 q1 t
  | 16, _, _ => s0_e16 cA h0 q h1 q1 t
  | 17, _, _ => s0_e17 cA h0 q h1 q1 t
  | 18, _, _ => s0_e18 cA h0 q h1 q1 t
  | 19, _, _ => s0_e19 cA h0 q h1 q1 t
  | 20, _, _ => s0_e20 cA h0 q h1 q1 t
  | 21, _, _ => s0_e21 cA h0 q h1 q1 t
  | 22, _, _ => s0_e22 cA h0 q h1 q1 t
  | 23, _, _ => s0_e23 cA h0 q h1 q1 t
  | 24, _, _ => s0_e24 cA h0 q h1 q1 t
  | 25, _, _ => s0_e25 cA h0 q h1 q1 t
  | 26, _, h => absurd rfl h
  | 27, _, _ => s0_e27 cA h0 q h1 q1 t
  | 28, _, _ => s0_e28 cA h0 q h1 q1 t
  | 29, _, _ => s0_e29 cA h0 q h1 q1 t
  | 30, _, _ => s0_e30 cA h0 q h1 q1 t
  | 31, _, _ => s0_e31 cA h0 q h1 q1 t
  | 32, _, _ => s0_e32 cA h0 q h1 q1 t
  | 33, _, _ => s0_e33 cA h0 q h1 q1 t
  | 34, _, _ => s0_e34 cA h0 q h1 q1 t
  | 35, _, _ => s0_e35 cA h0 q h1 q1 t
  | 36, _, _ => s0_e36 cA h0 q h1 q1 t
  | 37, _, _ => s0_e37 cA h0 q h1 q1 t
  | 38, _, _ => s0_e38 cA h0 q h1 q1 t
  | 39, _, _ => s0_e39 cA h0 q h1 q1 t
  | 40, _, _ => s0_e40 cA h0 q h1 q1 t
  | 41, _, _ => s0_e41 cA h0 q h1 q1 t
  | 42, _, _ => s0_e42 cA h0 q h1 q1 t
  | 43, _, _ => s0_e43 cA h0 q h1 q1 t
  | 44, _, _ => s0_e44 cA h0 q h1 q1 t
  | 45, _, _ => s0_e45 cA h0 q h1 q1 t
  | 46, _, _ => s0_e46 cA h0 q h1 q1 t
  | 47, _, _ => s0_e47 cA h0 q h1 q1 t
  | 48, _, _ => s0_e48 cA h0 q h1 q1 t
  | 49, _, _ => s0_e49 cA h0 q h1 q1 t
  | k + 50, hk, _ => absurd hk (by omega)
theorem s0_c1 (cA : Nat → ClassId) (h0 : Nat) (q : Nat → Nat) (h1 : Nat) (q1 : Nat → Nat) (t : Nat) (k : Nat) (hk : k < 22) : (cw99 cA h1 q1)[k]? = some (s0_ad h0 q h1 q1 t (50 + k), ab_ce (s0_ad h0 q h1 q1 t) cA s0 (50 + k) (ab_s (50 + k))) := match k, hk with
  | 0, _ => s0_e50 cA h0 q h1 q1 t
  | 1, _ => s0_e51 cA h0 q h1 q1 t
  | 2, _ => s0_e52 cA h0 q h1 q1 t
  | 3, _ => s0_e53 cA h0 q h1 q1 t
  | 4, _ => s0_e54 cA h0 q h1 q1 t
  | 5, _ => s0_e55 cA h0 q h1 q1 t
  | 6, _ => s0_e56 cA h0 q h1 q1 t
  | 7, _ => s0_e57 cA h0 q h1 q1 t
  | 8, _ => s0_e58 cA h0 q h1 q1 t
  | 9, _ => s0_e59 cA h0 q h1 q1 t
  | 10, _ => s0_e60 cA h0 q h1 q1 t
  | 11, _ => s0_e61 cA h0 q h1 q1 t
  | 12, _ => s0_e62 cA h0 q h1 q1 t
  | 13, _ => s0_e63 cA h0 q h1 q1 t
  | 14, _ => s0_e64 cA h0 q h1 q1 t
  | 15, _ => s0_e65 cA h0 q h1 q1 t
  | 16, _ => s0_e66 cA h0 q h1 q1 t
  | 17, _ => s0_e67 cA h0 q h1 q1 t
  | 18, _ => s0_e68 cA h0 q h1 q1 t
  | 19, _ => s0_e69 cA h0 q h1 q1 t
  | 20, _ => s0_e70 cA h0 q h1 q1 t
  | 21, _ => s0_e71 cA h0 q h1 q1 t
  | k + 22, hk => absurd hk (by omega)
theorem s0_c26 (cA : Nat → ClassId) (h0 : Nat) (q : Nat → Nat) (h1 : Nat) (q1 : Nat → Nat) (t : Nat) : (s0_ad h0 q h1 q1 t 26, ab_ce (s0_ad h0 q h1 q1 t) cA s0 26 (ab_s 26)) = (q 25, .inl (cA 104, 2, .inr (.inr (.inr (.inr (fun j => some (s0_ad h0 q h1 q1 t ([27, 29].getD j 0)))))))) := rfl
theorem s0_f26 (cA : Nat → ClassId) (h0 : Nat) (q : Nat → Nat) : (cw0 cA h0 q)[26]? = some (q 25, .inl (cA 104, 2, .inr (.inr (.inr (.inr (fun j => if j = 0 then some (q 26) else some (q 28))))))) := rfl
theorem s0_l0 (cA : Nat → ClassId) (h0 : Nat) (q : Nat → Nat) : (cw0 cA h0 q).length = 50 := rfl
theorem s0_l1 (cA : Nat → ClassId) (h0 : Nat) (q : Nat → Nat) : (cw99 cA h0 q).length = 22 := rfl
theorem s0_ks : ∀ k, k < 72 → ab_k k ≠ 999 := by decide +kernel
theorem s0_eq (cA : Nat → ClassId) (h0 : Nat) (q : Nat → Nat) (h1 : Nat) (q1 : Nat → Nat) (t : Nat) : (cw0 cA h0 q ++ cw99 cA h1 q1).set 26 (q 25, .inl (cA 104, 2, .inr (.inr (.inr (.inr (fun j => some (s0_ad h0 q h1 q1 t ([27, 29].getD j 0)))))))) = ab_w (s0_ad h0 q h1 q1 t) cA s0 := by
  apply List.ext_getElem?
  intro k
  rw [List.getElem?_set, List.length_append, s0_l0, s0_l1]
  by_cases hk : k < 72
  · rw [ab_w_at _ _ _ (s0_ks k hk)]
    by_cases h26 : 26 = k
    · subst h26
      rw [if_pos rfl, if_pos (by decide), s0_c26]
    · rw [if_neg h26]
      by_cases h50 : k < 50
      · rw [List.getElem?_append_left (by rw [s0_l0]; exact h50)]
        exact s0_c0 cA h0 q h1 q1 t k h50 (fun e => h26 e.symm)
      · rw [List.getElem?_append_right (by rw [s0_l0]; omega), s0_l0, s0_c1 cA h0 q h1 q1 t (k - 50) (by omega)]
        rw [show 50 + (k - 50) = k by omega]
  · rw [if_neg (by omega), List.getElem?_eq_none (by rw [List.length_append, s0_l0, s0_l1]; omega), List.getElem?_eq_none]
    unfold ab_w
    rw [List.length_mapIdx]
    exact Nat.le_of_not_lt hk
theorem s0_w {dC : Nat → ClassId} {dI : Nat → Nat → Nat} {cA : Nat → ClassId} {A : Nat → Prop} {s : State} {h0 : Nat} {q : Nat → Nat} {h1 : Nat} {q1 : Nat → Nat} (t : Nat) {H : Heap} {locs : List Loc} (hW : ct_Wd dC dI A s (cw0 cA h0 q ++ cw99 cA h1 q1) H locs) :
    ct_Wd dC dI A s (ab_w (s0_ad h0 q h1 q1 t) cA s0) H locs := by
  refine ct_slots (k := 26) (f := fun j => if j = 0 then some (q 26) else some (q 28)) ?_ (s0_eq cA h0 q h1 q1 t) (fun j hj => ?_) hW
  · rw [List.getElem?_append_left (by rw [s0_l0]; decide)]
    exact s0_f26 cA h0 q
  · match j, hj with
    | 0, _ => rfl
    | 1, _ => rfl
/-- all are in A -/
theorem s0_ab {ad : Nat → Nat} {cA : Nat → ClassId} {σ : ab_St} {A : Nat → Prop} (hD : va_D A (ab_w ad cA σ)) : va_D (ab_Ad ad) (ab_w ad cA σ) ∧ ∀ q, ab_Ad ad q → A q := by
  have hlen : (ab_w ad cA σ).length = 72 := by
    unfold ab_w
    rw [List.length_mapIdx]
    rfl
  have hat : ∀ c, c < 72 → ∃ x, (ab_w ad cA σ)[c]? = some (ad c, x) := by
    intro c hc
    unfold ab_w
    rw [List.getElem?_mapIdx]
    have : c < ab_sh.length := hc
    rw [List.getElem?_eq_getElem this]
    exact ⟨_, rfl⟩
  refine ⟨⟨hD.1, fun k q hq => ?_⟩, fun q hq => ?_⟩
  · have hk : k < 72 := by rw [← hlen]; exact (List.getElem?_eq_some_iff.mp hq).1
    obtain ⟨x, hx⟩ := hat k hk
    rw [hx] at hq
    cases hq
    exact ⟨k, hk, rfl⟩
  · obtain ⟨c, hc, rfl⟩ := hq
    obtain ⟨x, hx⟩ := hat c hc
    exact hD.2 c _ hx
