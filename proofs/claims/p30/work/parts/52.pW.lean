/-! PURE: the floats, without a memory -/
def qb72 (x2 : Int32) (x4 : UInt64) (x6 : Int32) : Option Int64 := if z_n64 (FP.dsub x4 FP.dconst1) then if z_n64 (FP.dmul (FP.dsub x4 FP.dconst1) (FP.l2d ((1 : Int64) <<< ((x2).toInt64 &&& 63)))) then some (((((x6).toInt64) <<< ((x2).toInt64 &&& 63)) + (FP.d2l (FP.dmul (FP.dsub x4 FP.dconst1) (FP.l2d ((1 : Int64) <<< ((x2).toInt64 &&& 63))))))) else none else none
def qb45 : Nat → Int32 → UInt64 → Int32 → Option Int64
  | 0, _, _, _ => none
  | n + 1, x2, x4, x6 => if 0 ≤ (Op.cmpValue (FP.dcmp x4 FP.dconst1) CmpOp.g) then qb72 x2 x4 x6 else (if x6 ≤ 1 then qb72 x2 x4 x6 else (if z_n64 (FP.dmul x4 (4611686018427387904 : UInt64)) then qb45 n x2 (FP.dmul x4 (4611686018427387904 : UInt64)) (x6 + (-1)) else none))
def qb14 : Nat → Int32 → Int32 → UInt64 → Int32 → Option Int64
  | 0, _, _, _, _ => none
  | n + 1, x2, x3, x4, x6 => if (Op.cmpValue (FP.dcmp x4 (4611686018427387904 : UInt64)) CmpOp.l) < 0 then qb45 z_F x2 x4 x6 else (if (2 * x3) ≤ x6 then qb45 z_F x2 x4 x6 else (if z_n64 (FP.ddiv x4 (4611686018427387904 : UInt64)) then qb14 n x2 x3 (FP.ddiv x4 (4611686018427387904 : UInt64)) (x6 + 1) else none))
def qbits (x0 : UInt64) (x2 x3 : Int32) : Option Int64 := if 0 < (Op.cmpValue (FP.dcmp x0 FP.dconst0) CmpOp.l) then qb14 z_F x2 x3 x0 x3 else some 0
def okF (x : UInt32) : Bool := decide (z_n32 x) && decide (z_n64 (FP.f2d x)) && decide ((Op.cmpValue (FP.fcmp x x) CmpOp.l) = 0) && decide (qbits (FP.f2d x) 23 127 = some (x.toInt32).toInt64)
def okD (x : UInt64) : Bool := decide (z_n64 x) && decide ((Op.cmpValue (FP.dcmp x x) CmpOp.l) = 0) && decide (qbits x 52 1023 = some x.toInt64)
def allN (f : Nat → Bool) : Nat → Bool
  | 0 => true
  | n + 1 => f n && allN f n
theorem allN_at {f : Nat → Bool} : ∀ {n : Nat}, allN f n = true → ∀ i, i < n → f i = true := by
  intro n
  induction n with
  | zero => intro _ i hi; omega
  | succ n ih =>
    intro h i hi
    have h2 : (f n && allN f n) = true := h
    rw [Bool.and_eq_true] at h2
    by_cases hin : i = n
    · rw [hin]; exact h2.1
    · exact ih h2.2 i (by omega)
def ckF (c : Nat) : Bool := allN (fun s => okF (FP.fdiv (FP.i2f (nI s)) (FP.i2f (nI c)))) (9 * c + 1)
def ckD (c : Nat) : Bool := allN (fun s => okD (FP.ddiv (FP.i2d (nI s)) (FP.i2d (100 * nI c)))) (85 * c + 1)
