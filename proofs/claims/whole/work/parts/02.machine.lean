/-! THE MACHINE IN SMALL: a store of ints and longs by cell and place; a method runs over it as a function with fuel -/
abbrev ab_St : Type := (Nat → Nat → Int32) × (Nat → Nat → Int64)
abbrev ab_Lo : Type := List (Option Value)
def ab_wI (σ : ab_St) (c : Nat) (f : Nat → Int32) : ab_St := (fun c' => if c' = c then f else σ.1 c', σ.2)
def ab_wL (σ : ab_St) (c : Nat) (f : Nat → Int64) : ab_St := (σ.1, fun c' => if c' = c then f else σ.2 c')
def ab_ldI (ls : ab_Lo) (i : Nat) : Option Int32 := match ls[i]? with
  | some (some (.int x)) => some x
  | _ => none
def ab_ldR (ls : ab_Lo) (i : Nat) : Option Nat := match ls[i]? with
  | some (some (.ref x)) => some x
  | _ => none
def ab_ldL (ls : ab_Lo) (i : Nat) : Option Int64 := match ls[i]?, ls[i + 1]? with
  | some (some (.long x)), some none => some x
  | _, _ => none
def ab_ci (own idx : Nat) : Option Int32 := (ab_ciT.find? (fun q => q.1 == own && q.2.1 == idx)).map (fun q => q.2.2)
def ab_cl (own idx : Nat) : Option Int64 := (ab_clT.find? (fun q => q.1 == own && q.2.1 == idx)).map (fun q => q.2.2)
def ab_fl (own idx : Nat) : Option (Nat × Nat) := (ab_flT.find? (fun q => q.1 == own && q.2.1 == idx)).map (fun q => q.2.2)
def ab_ml (own idx : Nat) : Option (Nat × Nat × Nat) := (ab_mlT.find? (fun q => q.1 == own && q.2.1 == idx)).map (fun q => q.2.2)
def ab_ac (own idx : Nat) : Bool := ab_acT.any (fun q => q.1 == own && q.2 == idx)
def ab_gs (own idx : Nat) : Option Nat := (ab_gsT.find? (fun q => q.1 == own && q.2.1 == idx)).map (fun q => q.2.2)
def ab_mm (own idx : Nat) : Option Nat := (ab_mmT.find? (fun q => q.1 == own && q.2.1 == idx)).map (fun q => q.2.2)
/-- constants, loads, the stack: the new stack -/
def ab_A1 (M : Nat) (i : Instr) (len : Nat) (ls : ab_Lo) (st : List Value) : Option (List Value) := match i, len, st with
  | .iconst n, 1, st => some (.int (Int32.ofInt n) :: st)
  | .bipush n, 2, st => some (.int (Int8.ofInt n).toInt32 :: st)
  | .sipush n, 3, st => some (.int (Int16.ofInt n).toInt32 :: st)
  | .lconst n, 1, st => some (.long (Int64.ofNat (n : Nat)) :: st)
  | .iload_n k, 1, st => (ab_ldI ls (k : Nat)).map (fun x => .int x :: st)
  | .iload k, 2, st => (ab_ldI ls k).map (fun x => .int x :: st)
  | .lload_n k, 1, st => (ab_ldL ls (k : Nat)).map (fun x => .long x :: st)
  | .lload k, 2, st => (ab_ldL ls k).map (fun x => .long x :: st)
  | .aload_n k, 1, st => (ab_ldR ls (k : Nat)).map (fun x => .ref x :: st)
  | .aload k, 2, st => (ab_ldR ls k).map (fun x => .ref x :: st)
  | .ldc k, 2, st => (ab_ci (ab_O M) k).map (fun x => .int x :: st)
  | .ldc_w k, 3, st => (ab_ci (ab_O M) k).map (fun x => .int x :: st)
  | .ldc2_w k, 3, st => (ab_cl (ab_O M) k).map (fun x => .long x :: st)
  | .dup, 1, v :: st => if v.category = 1 then some (v :: v :: st) else none
  | .dup2, 1, v :: w :: st => if v.category = 1 ∧ w.category = 1 then some (v :: w :: v :: w :: st) else none
  | .pop, 1, v :: st => if v.category = 1 then some st else none
  | _, _, _ => none
/-- arithmetic: the new stack -/
def ab_A2 (i : Instr) (len : Nat) (st : List Value) : Option (List Value) := match i, len, st with
  | .iadd, 1, .int y :: .int x :: st => some (.int (x + y) :: st)
  | .isub, 1, .int y :: .int x :: st => some (.int (x - y) :: st)
  | .imul, 1, .int y :: .int x :: st => some (.int (x * y) :: st)
  | .iand, 1, .int y :: .int x :: st => some (.int (x &&& y) :: st)
  | .ior, 1, .int y :: .int x :: st => some (.int (x ||| y) :: st)
  | .ixor, 1, .int y :: .int x :: st => some (.int (x ^^^ y) :: st)
  | .ishl, 1, .int y :: .int x :: st => some (.int (x <<< (y &&& 31)) :: st)
  | .ishr, 1, .int y :: .int x :: st => some (.int (x >>> (y &&& 31)) :: st)
  | .iushr, 1, .int y :: .int x :: st => some (.int (x.toUInt32 >>> (y.toUInt32 &&& Int32.toUInt32 31)).toInt32 :: st)
  | .idiv, 1, .int y :: .int x :: st => if y = 0 then none else some (.int (x / y) :: st)
  | .irem, 1, .int y :: .int x :: st => if y = 0 then none else some (.int (x - x / y * y) :: st)
  | .ladd, 1, .long y :: .long x :: st => some (.long (x + y) :: st)
  | .lmul, 1, .long y :: .long x :: st => some (.long (x * y) :: st)
  | .ldiv, 1, .long y :: .long x :: st => if y = 0 then none else some (.long (x / y) :: st)
  | .lrem, 1, .long y :: .long x :: st => if y = 0 then none else some (.long (x - x / y * y) :: st)
  | .lcmp, 1, .long y :: .long x :: st => some (.int (lg_cmp x y) :: st)
  | .i2l, 1, .int x :: st => some (.long x.toInt64 :: st)
  | .l2i, 1, .long x :: st => some (.int x.toInt32 :: st)
  | .i2b, 1, .int x :: st => some (.int x.toInt8.toInt32 :: st)
  | .lshr, 1, .int y :: .long x :: st => some (.long (x >>> (y.toInt64 &&& 63)) :: st)
  | .lushr, 1, .int y :: .long x :: st => some (.long (x.toUInt64 >>> (y.toInt64.toUInt64 &&& Int64.toUInt64 63)).toInt64 :: st)
  | _, _, _ => none
/-- Math.max, Math.min -/
def ab_X (d M : Nat) (i : Instr) (len : Nat) (st : List Value) : Option (List Value) := match i, len, st with
  | .invokestatic idx, 3, .int y :: .int x :: st => (ab_mm (ab_O M) idx).bind (fun k => if 0 < d ∧ (st.map fun v => v.category).sum ≤ 8 then some (.int (if k = 0 then (if x < y then y else x) else (if y < x then y else x)) :: st) else none)
  | _, _, _ => none
/-- stores to locals -/
def ab_S (i : Instr) (len : Nat) (ls : ab_Lo) (st : List Value) : Option (ab_Lo × List Value) := match i, len, st with
  | .istore_n k, 1, .int x :: st => if (k : Nat) < ls.length then some (ls.set (k : Nat) (some (.int x)), st) else none
  | .istore k, 2, .int x :: st => if k < ls.length then some (ls.set k (some (.int x)), st) else none
  | .lstore_n k, 1, .long x :: st => if (k : Nat) + 1 < ls.length then some ((ls.set (k : Nat) (some (.long x))).set ((k : Nat) + 1) none, st) else none
  | .lstore k, 2, .long x :: st => if k + 1 < ls.length then some ((ls.set k (some (.long x))).set (k + 1) none, st) else none
  | .iinc k n, 3, st => (ab_ldI ls k).bind (fun x => if k < ls.length then some (ls.set k (some (.int (x + Int32.ofInt n))), st) else none)
  | _, _, _ => none
def ab_to (pc : Nat) (off : Int) : Nat := ((pc : Int) + off).toNat
def ab_tsw (dflt lo hi : Int) (offs : Array Int) (x : Int32) : Option Int := if x.toInt < lo ∨ hi < x.toInt then some dflt else offs[(x.toInt - lo).toNat]?
/-- jumps: where to, the new stack -/
def ab_J (i : Instr) (len pc : Nat) (st : List Value) : Option (Nat × List Value) := match i, len, st with
  | .goto off, 3, st => if 0 ≤ (pc : Int) + off then some (ab_to pc off, st) else none
  | .ifCond .eq off, 3, .int x :: st => if 0 ≤ (pc : Int) + off then some (if x = 0 then ab_to pc off else pc + 3, st) else none
  | .ifCond .ne off, 3, .int x :: st => if 0 ≤ (pc : Int) + off then some (if x = 0 then pc + 3 else ab_to pc off, st) else none
  | .ifCond .lt off, 3, .int x :: st => if 0 ≤ (pc : Int) + off then some (if x < 0 then ab_to pc off else pc + 3, st) else none
  | .ifCond .ge off, 3, .int x :: st => if 0 ≤ (pc : Int) + off then some (if 0 ≤ x then ab_to pc off else pc + 3, st) else none
  | .ifCond .gt off, 3, .int x :: st => if 0 ≤ (pc : Int) + off then some (if 0 < x then ab_to pc off else pc + 3, st) else none
  | .ifCond .le off, 3, .int x :: st => if 0 ≤ (pc : Int) + off then some (if x ≤ 0 then ab_to pc off else pc + 3, st) else none
  | .if_icmp .eq off, 3, .int y :: .int x :: st => if 0 ≤ (pc : Int) + off then some (if x = y then ab_to pc off else pc + 3, st) else none
  | .if_icmp .ne off, 3, .int y :: .int x :: st => if 0 ≤ (pc : Int) + off then some (if x = y then pc + 3 else ab_to pc off, st) else none
  | .if_icmp .lt off, 3, .int y :: .int x :: st => if 0 ≤ (pc : Int) + off then some (if x < y then ab_to pc off else pc + 3, st) else none
  | .if_icmp .ge off, 3, .int y :: .int x :: st => if 0 ≤ (pc : Int) + off then some (if y ≤ x then ab_to pc off else pc + 3, st) else none
  | .if_icmp .gt off, 3, .int y :: .int x :: st => if 0 ≤ (pc : Int) + off then some (if y < x then ab_to pc off else pc + 3, st) else none
  | .if_icmp .le off, 3, .int y :: .int x :: st => if 0 ≤ (pc : Int) + off then some (if x ≤ y then ab_to pc off else pc + 3, st) else none
  | .tableswitch dflt lo hi offs, _, .int x :: st => (ab_tsw dflt lo hi offs x).bind (fun off => if 0 ≤ (pc : Int) + off then some (ab_to pc off, st) else none)
  | _, _, _ => none
abbrev ab_in (j : Int32) (n : Nat) : Prop := ¬ (j < 0 ∨ n ≤ j.toNatClampNeg)
/-- the static array of powers of ten -/
def ab_pw (j : Nat) : Int32 := [1, 10, 100, 1000, 10000, 100000, 1000000, 10000000, 100000000].getD j 0
def ab_fv (σ : ab_St) (ci c k : Nat) : Value := if ab_fk ci k = 0 then .int (σ.1 c k) else if ab_fk ci k = 1 then .long (σ.2 c k) else .ref (ab_r c k)
/-- the heap: the new stack, the new store -/
def ab_H (d M : Nat) (i : Instr) (len : Nat) (st : List Value) (σ : ab_St) : Option (List Value × ab_St) := match i, len, st with
  | .getfield idx, 3, .ref c :: st => (ab_fl (ab_O M) idx).bind (fun q => if ab_k c = q.1 then some (ab_fv σ q.1 c q.2 :: st, σ) else none)
  | .putfield idx, 3, .int x :: .ref c :: st => (ab_fl (ab_O M) idx).bind (fun q => if ab_fk q.1 q.2 = 0 then (if ab_k c = q.1 then some (st, ab_wI σ c (upd (σ.1 c) q.2 x)) else none) else none)
  | .putfield idx, 3, .long x :: .ref c :: st => (ab_fl (ab_O M) idx).bind (fun q => if ab_fk q.1 q.2 = 1 then (if ab_k c = q.1 then some (st, ab_wL σ c (vp_updL (σ.2 c) q.2 x)) else none) else none)
  | .getstatic idx, 3, st => (ab_gs (ab_O M) idx).map (fun _ => (.null :: st, σ))
  | .iaload, 1, .int j :: .null :: st => if ab_in j 9 then some (.int (ab_pw j.toNatClampNeg) :: st, σ) else none
  | .iaload, 1, .int j :: .ref c :: st => if ab_k c = 100 ∧ ab_in j (ab_n c) then some (.int (σ.1 c j.toNatClampNeg) :: st, σ) else none
  | .baload, 1, .int j :: .ref c :: st => if (ab_k c = 101 ∨ ab_k c = 102) ∧ ab_in j (ab_n c) then some (.int (σ.1 c j.toNatClampNeg) :: st, σ) else none
  | .laload, 1, .int j :: .ref c :: st => if ab_k c = 103 ∧ ab_in j (ab_n c) then some (.long (σ.2 c j.toNatClampNeg) :: st, σ) else none
  | .aaload, 1, .int j :: .ref c :: st => if ab_k c = 104 ∧ ab_in j (ab_n c) then some (.ref (ab_r c j.toNatClampNeg) :: st, σ) else none
  | .iastore, 1, .int x :: .int j :: .ref c :: st => if ab_k c = 100 ∧ ab_in j (ab_n c) then some (st, ab_wI σ c (upd (σ.1 c) j.toNatClampNeg x)) else none
  | .bastore, 1, .int x :: .int j :: .ref c :: st => if ab_k c = 101 ∧ ab_in j (ab_n c) then some (st, ab_wI σ c (upd (σ.1 c) j.toNatClampNeg (vp_nar .byte x))) else if ab_k c = 102 ∧ ab_in j (ab_n c) then some (st, ab_wI σ c (upd (σ.1 c) j.toNatClampNeg (vp_nar .boolean x))) else none
  | .lastore, 1, .long x :: .int j :: .ref c :: st => if ab_k c = 103 ∧ ab_in j (ab_n c) then some (st, ab_wL σ c (vp_updL (σ.2 c) j.toNatClampNeg x)) else none
  | .arraylength, 1, .ref c :: st => if 100 ≤ ab_k c ∧ ab_k c ≤ 103 then some (.int (Int32.ofNat (ab_n c)) :: st, σ) else none
  | .invokestatic idx, 3, .int n :: .int dp :: .ref c :: .int sp :: .ref c0 :: st =>
    if ab_ac (ab_O M) idx = true then (if 0 < d ∧ (ab_k c0 = 100 ∧ ab_k c = 100) ∧ (¬ sp < 0 ∧ ¬ dp < 0 ∧ ¬ n < 0) ∧ sp.toNatClampNeg + n.toNatClampNeg ≤ ab_n c0 ∧ dp.toNatClampNeg + n.toNatClampNeg ≤ ab_n c ∧ (st.map fun v => v.category).sum ≤ 8
      then some (st, ab_wI σ c (va_cpy (σ.1 c0) (σ.1 c) sp.toNatClampNeg dp.toNatClampNeg n.toNatClampNeg)) else none) else none
  | _, _, _ => none
/-- the end of a method -/
def ab_E (M : Nat) (i : Instr) (len : Nat) (st : List Value) : Option (Option Value) := match i, len, st with
  | .ireturn, 1, [.int x] => if ab_R M = some .int then some (some (.int x)) else if ab_R M = some .boolean then (if x = 0 ∨ x = 1 then some (some (.int x)) else none) else none
  | .lreturn, 1, [.long x] => if ab_R M = some .long then some (some (.long x)) else none
  | .return_, 1, [] => if ab_R M = none then some none else none
  | _, _, _ => none
def ab_sl : List Value → ab_Lo
  | [] => []
  | v :: vs => if v.category = 2 then some v :: none :: ab_sl vs else some v :: ab_sl vs
def ab_ent (n : Nat) (as : List Value) : ab_Lo := ab_sl as ++ List.replicate (n - (ab_sl as).length) none
def ab_recvB (y : Nat) (as : List Value) : Bool := match as with
  | .ref b :: _ => ab_k b == ab_O y
  | _ => false
/-- a call: the callee, its arguments, the rest of the stack -/
def ab_K (M : Nat) (i : Instr) (len : Nat) (st : List Value) : Option (Nat × List Value × List Value) := match i, len with
  | .invokestatic idx, 3 => (ab_ml (ab_O M) idx).bind (fun q => if (q.2.2 = 0 ∨ q.2.2 = 2) ∧ q.2.1 ≤ st.length ∧ ((st.drop q.2.1).map fun v => v.category).sum ≤ 8 ∧ (ab_sl (st.take q.2.1).reverse).length ≤ ab_L q.1 then some (q.1, (st.take q.2.1).reverse, st.drop q.2.1) else none)
  | .invokevirtual idx, 3 => (ab_ml (ab_O M) idx).bind (fun q => if q.2.2 = 1 ∧ q.2.1 + 1 ≤ st.length ∧ ((st.drop (q.2.1 + 1)).map fun v => v.category).sum ≤ 8 ∧ (ab_sl (st.take (q.2.1 + 1)).reverse).length ≤ ab_L q.1 ∧ ab_recvB q.1 (st.take (q.2.1 + 1)).reverse = true then some (q.1, (st.take (q.2.1 + 1)).reverse, st.drop (q.2.1 + 1)) else none)
  | _, _ => none
def ab_run : Nat → Nat → Nat → Nat → ab_Lo → List Value → ab_St → Option (Option Value × ab_St)
  | 0, _, _, _, _, _, _ => none
  | n + 1, d, M, pc, ls, st, σ => match decode (ab_C M) pc with
    | .error _ => none
    | .ok (i, len) => match ab_A1 M i len ls st with
      | some st' => ab_run n d M (pc + len) ls st' σ
      | none => match ab_A2 i len st with
        | some st' => ab_run n d M (pc + len) ls st' σ
        | none => match ab_X d M i len st with
         | some st' => ab_run n d M (pc + len) ls st' σ
         | none => match ab_S i len ls st with
          | some q => ab_run n d M (pc + len) q.1 q.2 σ
          | none => match ab_J i len pc st with
            | some q => ab_run n d M q.1 ls q.2 σ
            | none => match ab_H d M i len st σ with
              | some q => ab_run n d M (pc + len) ls q.1 q.2
              | none => match ab_E M i len st with
                | some r => some (r, σ)
                | none => match ab_K M i len st, d with
                  | some q, d' + 1 => match ab_run n d' q.1 0 (ab_ent (ab_L q.1) q.2.1) [] σ with
                    | some w => ab_run n (d' + 1) M (pc + 3) ls (w.1.toList ++ q.2.2) w.2
                    | none => none
                  | _, _ => none
