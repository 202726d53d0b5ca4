/-! PURE: doubles that are normal, their bits -/
def dn (c : Nat) (q : Int) : Nat := (q + 1074).toNat * 4503599627370496 + c
def Dk (c : Nat) (q : Int) : Prop := (4503599627370496 ≤ c ∧ c < 9007199254740992) ∧ -1074 ≤ q ∧ q ≤ 900
theorem dn_lt {c : Nat} {q : Int} (h : Dk c q) : dn c q < 9218868437227405312 := by unfold dn Dk at *; omega
theorem d_enc {c : Nat} {q : Int} (h : Dk c q) : FP.Core.encode FP.Core.b64 (.fin false c q) = dn c q := by
  have h1 : ¬ c < 4503599627370496 := by unfold Dk at h; omega
  show (if c < 4503599627370496 then FP.Core.assemble FP.Core.b64 false 0 c else ((0 * 2048 + ((q - (-1074)).toNat + 1)) * 4503599627370496 + (c - 4503599627370496))) = dn c q
  rw [if_neg h1]
  unfold dn Dk at *
  omega
theorem d_dec {c : Nat} {q : Int} (h : Dk c q) : FP.Core.decode FP.Core.b64 (dn c q) = .fin false c q := by
  have e1 : FP.Core.fieldE FP.Core.b64 (dn c q) = (q + 1074).toNat + 1 := by
    show dn c q / 4503599627370496 % 2048 = _
    unfold dn Dk at *; omega
  have e2 : FP.Core.fieldT FP.Core.b64 (dn c q) = c - 4503599627370496 := by
    show dn c q % 4503599627370496 = _
    unfold dn Dk at *; omega
  have e3 : FP.Core.fieldS FP.Core.b64 (dn c q) = false := by
    show (dn c q / 4503599627370496 / 2048 % 2 == 1) = false
    have : dn c q / 4503599627370496 / 2048 % 2 = 0 := by unfold dn Dk at *; omega
    rw [this]; rfl
  unfold FP.Core.decode
  rw [e1, e2, e3, if_neg (show ¬ (q + 1074).toNat + 1 = FP.Core.b64.exps - 1 by show ¬ (q + 1074).toNat + 1 = 2047; unfold Dk at h; omega), if_neg (by omega)]
  have e4 : FP.Core.b64.tails + (c - 4503599627370496) = c := by show 4503599627370496 + (c - 4503599627370496) = c; unfold Dk at h; omega
  have e5 : FP.Core.b64.qmin + ((((q + 1074).toNat + 1 : Nat) : Int) - 1) = q := by show (-1074 : Int) + ((((q + 1074).toNat + 1 : Nat) : Int) - 1) = q; unfold Dk at h; omega
  rw [e4, e5]
def dD (c : Nat) (q : Int) : UInt64 := UInt64.ofNat (dn c q)
theorem dD_n {c : Nat} {q : Int} (h : Dk c q) : (dD c q).toNat = dn c q := by
  have := dn_lt h
  unfold dD
  rw [UInt64.toNat_ofNat']
  exact Nat.mod_eq_of_lt (by omega)
theorem dD_dec {c : Nat} {q : Int} (h : Dk c q) : FP.Core.decode FP.Core.b64 (dD c q).toNat = .fin false c q := by rw [dD_n h, d_dec h]
theorem z64_of {x : UInt64} (h : x.toNat ≤ 9218868437227405312) : z_n64 x := by
  show x &&& 9223372036854775807 ≤ 9218868437227405312
  rw [UInt64.le_iff_toNat_le, UInt64.toNat_and]
  exact Nat.le_trans Nat.and_le_left h
theorem dD_z {c : Nat} {q : Int} (h : Dk c q) : z_n64 (dD c q) := z64_of (by rw [dD_n h]; have := dn_lt h; omega)
/-- the digits' number -/
theorem log2_of {n k : Nat} (h1 : 2 ^ k ≤ n) (h2 : n < 2 ^ (k + 1)) : n.log2 = k := (Nat.log2_eq_iff (by have := Nat.two_pow_pos k; omega)).mpr ⟨h1, h2⟩
theorem lead1 {n : Nat} (h : n ≠ 0) : FP.Core.leading n 1 = (n.log2 : Int) := by
  unfold FP.Core.leading
  have h2 := Nat.log2_self_le h
  rw [show (1 : Nat).log2 = 0 from rfl]
  show (if 1 * 2 ^ ((n.log2 : Int) - ((0 : Nat) : Int)).toNat ≤ n * 2 ^ (-((n.log2 : Int) - ((0 : Nat) : Int))).toNat then (n.log2 : Int) - ((0 : Nat) : Int) else (n.log2 : Int) - ((0 : Nat) : Int) - 1) = _
  rw [show ((n.log2 : Int) - ((0 : Nat) : Int)).toNat = n.log2 by omega, show (-((n.log2 : Int) - ((0 : Nat) : Int))).toNat = 0 by omega, if_pos (by rw [Nat.one_mul, Nat.pow_zero, Nat.mul_one]; exact h2)]
  omega
theorem near1 (n : Nat) : FP.Core.nearest n 1 = n := by
  unfold FP.Core.nearest
  rw [Nat.mod_one, if_pos (by decide), Nat.div_one]
theorem settle_ok {c : Nat} {q : Int} (h : Dk c q) : FP.Core.settle FP.Core.b64 false c q = .fin false c q := by
  unfold FP.Core.settle
  rw [if_pos (show c < 2 ^ FP.Core.b64.p by show c < 9007199254740992; unfold Dk at h; omega)]
  unfold FP.Core.bound
  rw [if_pos (show q ≤ FP.Core.b64.qmax by show q ≤ 971; unfold Dk at h; omega)]
/-- a product's rounding: a normal number times a power of two -/
theorem rnd_mul {c k : Nat} {e : Int} (h : Dk c (e + k)) : FP.Core.round FP.Core.b64 (.fin false (c * 2 ^ k) e) = .fin false c (e + k) := by
  have hp := Nat.two_pow_pos k
  have hc : (4503599627370496 ≤ c ∧ c < 9007199254740992) ∧ -1074 ≤ e + k ∧ e + k ≤ 900 := h
  have h0 : c * 2 ^ k ≠ 0 := Nat.ne_of_gt (Nat.mul_pos (by omega) hp)
  have hl : (c * 2 ^ k).log2 = 52 + k := log2_of (by
    rw [Nat.pow_add]; exact Nat.mul_le_mul_right _ (show 2 ^ 52 ≤ c from hc.1.1)) (by
    rw [show 52 + k + 1 = 53 + k by omega, Nat.pow_add]; exact Nat.mul_lt_mul_of_pos_right (show c < 2 ^ 53 from hc.1.2) hp)
  show FP.Core.roundRatio FP.Core.b64 false (c * 2 ^ k) 1 e = _
  unfold FP.Core.roundRatio
  rw [if_neg h0]
  have hq : FP.Core.quantum FP.Core.b64 (c * 2 ^ k) 1 e = e + k := by
    unfold FP.Core.quantum
    rw [lead1 h0, hl]
    show max (-1074 : Int) (((52 + k : Nat) : Int) + e - 52) = e + k
    omega
  unfold FP.Core.roundAt
  rw [hq]
  have hu : FP.Core.unitsNum (c * 2 ^ k) e (e + k) = c * 2 ^ k := by
    unfold FP.Core.unitsNum
    rw [show (e - (e + (k : Int))).toNat = 0 by omega, Nat.pow_zero, Nat.mul_one]
  have hd : FP.Core.unitsDen 1 e (e + k) = 2 ^ k := by
    unfold FP.Core.unitsDen
    rw [show (e + (k : Int) - e).toNat = k by omega, Nat.one_mul]
  have hn : FP.Core.nearest (c * 2 ^ k) (2 ^ k) = c := by
    unfold FP.Core.nearest
    rw [Nat.mul_mod_left, if_pos (by omega), Nat.mul_div_cancel _ hp]
  rw [hu, hd, hn]
  exact settle_ok h
/-- a small whole number's rounding -/
theorem rnd_up {n j : Nat} {e : Int} (h1 : 2 ^ j ≤ n) (h2 : n < 2 ^ (j + 1)) (hj : j ≤ 52) (he : -1022 ≤ e ∧ e ≤ 900) : FP.Core.round FP.Core.b64 (.fin false n e) = .fin false (n * 2 ^ (52 - j)) (e + j - 52) ∧ Dk (n * 2 ^ (52 - j)) (e + j - 52) := by
  have h0 : n ≠ 0 := by have := Nat.two_pow_pos j; omega
  have hl := log2_of h1 h2
  have hc1 : 4503599627370496 ≤ n * 2 ^ (52 - j) := by
    rw [show 4503599627370496 = 2 ^ j * 2 ^ (52 - j) by rw [← Nat.pow_add, show j + (52 - j) = 52 by omega]]
    exact Nat.mul_le_mul_right _ h1
  have hc2 : n * 2 ^ (52 - j) < 9007199254740992 := by
    rw [show 9007199254740992 = 2 ^ (j + 1) * 2 ^ (52 - j) by rw [← Nat.pow_add, show j + 1 + (52 - j) = 53 by omega]]
    exact Nat.mul_lt_mul_of_pos_right h2 (Nat.two_pow_pos _)
  have hD : Dk (n * 2 ^ (52 - j)) (e + j - 52) := ⟨⟨hc1, hc2⟩, by omega, by omega⟩
  refine ⟨?_, hD⟩
  show FP.Core.roundRatio FP.Core.b64 false n 1 e = _
  unfold FP.Core.roundRatio
  rw [if_neg h0]
  have hq : FP.Core.quantum FP.Core.b64 n 1 e = e + j - 52 := by
    unfold FP.Core.quantum
    rw [lead1 h0, hl]
    show max (-1074 : Int) ((j : Int) + e - 52) = e + j - 52
    omega
  unfold FP.Core.roundAt
  rw [hq]
  have hu : FP.Core.unitsNum n e (e + j - 52) = n * 2 ^ (52 - j) := by
    unfold FP.Core.unitsNum
    rw [show (e - (e + (j : Int) - 52)).toNat = 52 - j by omega]
  have hd : FP.Core.unitsDen 1 e (e + j - 52) = 1 := by
    unfold FP.Core.unitsDen
    rw [show (e + (j : Int) - 52 - e).toNat = 0 by omega]
  rw [hu, hd, near1]
  exact settle_ok hD
/-- a quotient of two normal numbers -/
theorem rnd_div {m1 m2 : Nat} {e : Int} (h1 : 4503599627370496 ≤ m1 ∧ m1 < 9007199254740992) (h2 : 4503599627370496 ≤ m2 ∧ m2 < 9007199254740992) (he : -900 ≤ e ∧ e ≤ 900) :
    ∃ c : Nat, FP.Core.roundRatio FP.Core.b64 false m1 m2 e = .fin false c (if m2 ≤ m1 then e - 52 else e - 53) ∧ Dk c (if m2 ≤ m1 then e - 52 else e - 53) := by
  have l1 : m1.log2 = 52 := log2_of h1.1 h1.2
  have l2 : m2.log2 = 52 := log2_of h2.1 h2.2
  have hl : FP.Core.leading m1 m2 = if m2 ≤ m1 then 0 else -1 := by
    unfold FP.Core.leading
    rw [l1, l2]
    show (if m2 * 2 ^ 0 ≤ m1 * 2 ^ 0 then (0 : Int) else 0 - 1) = _
    by_cases hm : m2 ≤ m1
    · rw [if_pos hm]
      exact if_pos (by rw [Nat.pow_zero, Nat.mul_one, Nat.mul_one]; exact hm)
    · rw [if_neg hm]
      exact if_neg (by rw [Nat.pow_zero, Nat.mul_one, Nat.mul_one]; exact hm)
  have near : ∀ (N : Nat), 4503599627370496 * m2 ≤ N → N ≤ 9007199254740991 * m2 → 4503599627370496 ≤ FP.Core.nearest N m2 ∧ FP.Core.nearest N m2 < 9007199254740992 := fun N a1 a2 => by
    have b1 : 4503599627370496 ≤ N / m2 := (Nat.le_div_iff_mul_le (by omega)).mpr a1
    have b2 : N / m2 ≤ 9007199254740991 := (Nat.div_le_iff_le_mul_add_pred (by omega)).mpr (by rw [Nat.mul_comm]; omega)
    have b3 : N / m2 = 9007199254740991 → N % m2 = 0 := fun q => by
      have := Nat.div_add_mod N m2
      rw [q, Nat.mul_comm] at this
      omega
    unfold FP.Core.nearest
    by_cases hb : N / m2 = 9007199254740991
    · rw [b3 hb, if_pos (by omega)]; omega
    · by_cases c1 : 2 * (N % m2) < m2
      · rw [if_pos c1]; omega
      · rw [if_neg c1]
        by_cases c2 : m2 < 2 * (N % m2)
        · rw [if_pos c2]; omega
        · rw [if_neg c2]; omega
  unfold FP.Core.roundRatio
  rw [if_neg (by omega)]
  unfold FP.Core.roundAt FP.Core.quantum
  rw [hl]
  by_cases hm : m2 ≤ m1
  · rw [if_pos hm, if_pos hm, show max FP.Core.b64.qmin ((0 : Int) + e - ((FP.Core.b64.p : Int) - 1)) = e - 52 by show max (-1074 : Int) (0 + e - 52) = e - 52; omega]
    have hu : FP.Core.unitsNum m1 e (e - 52) = m1 * 4503599627370496 := by
      unfold FP.Core.unitsNum
      rw [show (e - (e - 52)).toNat = 52 by omega]
    have hd : FP.Core.unitsDen m2 e (e - 52) = m2 := by
      unfold FP.Core.unitsDen
      rw [show (e - 52 - e).toNat = 0 by omega, Nat.pow_zero, Nat.mul_one]
    rw [hu, hd]
    have hN := near (m1 * 4503599627370496) (by omega) (by omega)
    have hD : Dk (FP.Core.nearest (m1 * 4503599627370496) m2) (e - 52) := ⟨hN, by omega, by omega⟩
    exact ⟨_, settle_ok hD, hD⟩
  · rw [if_neg hm, if_neg hm, show max FP.Core.b64.qmin ((-1 : Int) + e - ((FP.Core.b64.p : Int) - 1)) = e - 53 by show max (-1074 : Int) (-1 + e - 52) = e - 53; omega]
    have hu : FP.Core.unitsNum m1 e (e - 53) = m1 * 9007199254740992 := by
      unfold FP.Core.unitsNum
      rw [show (e - (e - 53)).toNat = 53 by omega]
    have hd : FP.Core.unitsDen m2 e (e - 53) = m2 := by
      unfold FP.Core.unitsDen
      rw [show (e - 53 - e).toNat = 0 by omega, Nat.pow_zero, Nat.mul_one]
    rw [hu, hd]
    have hN := near (m1 * 9007199254740992) (by omega) (by omega)
    have hD : Dk (FP.Core.nearest (m1 * 9007199254740992) m2) (e - 53) := ⟨hN, by omega, by omega⟩
    exact ⟨_, settle_ok hD, hD⟩
/-! PURE: doubles, the operations on them -/
theorem d_mul {c k : Nat} {q r : Int} {y : UInt64} (h : Dk c q) (hr : Dk c (q + r + k)) (hy : FP.Core.decode FP.Core.b64 y.toNat = .fin false (2 ^ k) r) : FP.dmul (dD c q) y = dD c (q + r + k) := by
  show UInt64.ofNat (FP.Core.encode FP.Core.b64 (FP.Core.round FP.Core.b64 (FP.Core.exactProduct (FP.Core.decode FP.Core.b64 (dD c q).toNat) (FP.Core.decode FP.Core.b64 y.toNat)))) = _
  rw [dD_dec h, hy]
  show UInt64.ofNat (FP.Core.encode FP.Core.b64 (FP.Core.round FP.Core.b64 (.fin false (c * 2 ^ k) (q + r)))) = _
  rw [rnd_mul hr, d_enc hr]
  rfl
theorem two_dec : FP.Core.decode FP.Core.b64 (4611686018427387904 : UInt64).toNat = .fin false (2 ^ 52) (-51) := by decide +kernel
theorem one_dec : FP.Core.decode FP.Core.b64 FP.dconst1.toNat = .fin false (2 ^ 52) (-52) := by decide +kernel
theorem zero_dec : FP.Core.decode FP.Core.b64 FP.dconst0.toNat = .fin false 0 (-1074) := by decide +kernel
theorem l52_dec : FP.Core.decode FP.Core.b64 (FP.l2d ((1 : Int64) <<< ((52 : Int32).toInt64 &&& 63))).toNat = .fin false (2 ^ 52) 0 := by decide +kernel
theorem d_mul2 {c : Nat} {q : Int} (h : Dk c q) (h1 : Dk c (q + 1)) : FP.dmul (dD c q) 4611686018427387904 = dD c (q + 1) := by
  have := d_mul (k := 52) (r := -51) (y := 4611686018427387904) h (by rw [show q + -51 + ((52 : Nat) : Int) = q + 1 by omega]; exact h1) two_dec
  rw [show q + -51 + ((52 : Nat) : Int) = q + 1 by omega] at this
  exact this
/-- compared with a power of two that is greater -/
theorem d_cmp_lt {c : Nat} {q r : Int} {y : UInt64} (h : Dk c q) (hr : q < r) (hy : FP.Core.decode FP.Core.b64 y.toNat = .fin false (2 ^ 52) r) : FP.dcmp (dD c q) y = some .lt := by
  show FP.Core.order (FP.Core.decode FP.Core.b64 (dD c q).toNat) (FP.Core.decode FP.Core.b64 y.toNat) = _
  rw [dD_dec h, hy]
  show some (compare ((c * 2 ^ (q - min q r).toNat : Nat) : Int) ((2 ^ 52 * 2 ^ (r - min q r).toNat : Nat) : Int)) = _
  rw [show (q - min q r).toNat = 0 by omega, Nat.pow_zero, Nat.mul_one]
  have hlt : c < 2 ^ 52 * 2 ^ (r - min q r).toNat := by
    obtain ⟨j, hj⟩ : ∃ j, (r - min q r).toNat = j + 1 := ⟨(r - min q r).toNat - 1, by omega⟩
    rw [hj]
    show c < 4503599627370496 * 2 ^ (j + 1)
    rw [Nat.pow_succ]
    have h1 := Nat.two_pow_pos j
    have h2 := h.1.2
    generalize 2 ^ j = X at h1 ⊢
    omega
  rw [show compare (c : Int) ((2 ^ 52 * 2 ^ (r - min q r).toNat : Nat) : Int) = .lt from Int.compare_eq_lt.mpr (Int.ofNat_lt.mpr hlt)]
theorem d_cmp_1 {c : Nat} (h : Dk c (-52)) : 0 ≤ Op.cmpValue (FP.dcmp (dD c (-52)) FP.dconst1) CmpOp.g := by
  have e : FP.dcmp (dD c (-52)) FP.dconst1 = some (compare ((c * 2 ^ 0 : Nat) : Int) ((2 ^ 52 * 2 ^ 0 : Nat) : Int)) := by
    show FP.Core.order (FP.Core.decode FP.Core.b64 (dD c (-52)).toNat) (FP.Core.decode FP.Core.b64 FP.dconst1.toNat) = _
    rw [dD_dec h, one_dec]
    rfl
  rw [e]
  rcases hc : compare ((c * 2 ^ 0 : Nat) : Int) ((2 ^ 52 * 2 ^ 0 : Nat) : Int) with _ | _ | _
  · rw [Int.compare_eq_lt] at hc
    have := h.1.1
    omega
  · decide
  · decide
theorem d_cmp_0 {c : Nat} {q : Int} (h : Dk c q) : FP.dcmp (dD c q) FP.dconst0 = some .gt := by
  show FP.Core.order (FP.Core.decode FP.Core.b64 (dD c q).toNat) (FP.Core.decode FP.Core.b64 FP.dconst0.toNat) = _
  rw [dD_dec h, zero_dec]
  show some (compare ((c * 2 ^ (q - min q (-1074)).toNat : Nat) : Int) ((0 * 2 ^ (-1074 - min q (-1074)).toNat : Nat) : Int)) = _
  have hp : 0 < c * 2 ^ (q - min q (-1074)).toNat := Nat.mul_pos (by have := h.1.1; omega) (Nat.two_pow_pos _)
  rw [Nat.zero_mul, show compare ((c * 2 ^ (q - min q (-1074)).toNat : Nat) : Int) ((0 : Nat) : Int) = .gt from Int.compare_eq_gt.mpr (Int.ofNat_lt.mpr hp)]
theorem d_cmp_rf {c : Nat} {q : Int} (h : Dk c q) : FP.dcmp (dD c q) (dD c q) = some .eq := by
  show FP.Core.order (FP.Core.decode FP.Core.b64 (dD c q).toNat) (FP.Core.decode FP.Core.b64 (dD c q).toNat) = _
  rw [dD_dec h]
  show some (compare _ _) = _
  rw [show compare (FP.Core.signed false (FP.Core.inUnits c q (min q q))) (FP.Core.signed false (FP.Core.inUnits c q (min q q))) = .eq from Int.compare_eq_eq.mpr rfl]
/-- what is left of a number from 1 to 2, in its last places -/
theorem d_frac {T : Nat} (hT : T < 4503599627370496) : z_n64 (FP.dsub (dD (4503599627370496 + T) (-52)) FP.dconst1) ∧ z_n64 (FP.dmul (FP.dsub (dD (4503599627370496 + T) (-52)) FP.dconst1) (FP.l2d ((1 : Int64) <<< ((52 : Int32).toInt64 &&& 63)))) ∧ FP.d2l (FP.dmul (FP.dsub (dD (4503599627370496 + T) (-52)) FP.dconst1) (FP.l2d ((1 : Int64) <<< ((52 : Int32).toInt64 &&& 63)))) = Int64.ofInt T := by
  have hD : Dk (4503599627370496 + T) (-52) := ⟨⟨by omega, by omega⟩, by decide, by decide⟩
  have hv : FP.Core.sumUnits false (4503599627370496 + T) (-52) true (2 ^ 52) (-52) (-52) = (T : Int) := by
    show (((4503599627370496 + T) * 2 ^ 0 : Nat) : Int) + -((4503599627370496 * 2 ^ 0 : Nat) : Int) = (T : Int)
    rw [Nat.pow_zero, Nat.mul_one, Nat.mul_one]
    omega
  have hs : FP.Core.sumSign false true (T : Int) = false := by
    unfold FP.Core.sumSign
    by_cases h0 : (T : Int) = 0
    · rw [if_pos h0]; rfl
    · rw [if_neg h0]; exact decide_eq_false (by omega)
  have e : FP.dsub (dD (4503599627370496 + T) (-52)) FP.dconst1 = UInt64.ofNat (FP.Core.encode FP.Core.b64 (FP.Core.round FP.Core.b64 (.fin false T (-52)))) := by
    show UInt64.ofNat (FP.Core.encode FP.Core.b64 (FP.Core.round FP.Core.b64 (FP.Core.exactSum (FP.Core.decode FP.Core.b64 (dD (4503599627370496 + T) (-52)).toNat) (FP.Core.negate (FP.Core.decode FP.Core.b64 FP.dconst1.toNat))))) = _
    rw [dD_dec hD, one_dec]
    show UInt64.ofNat (FP.Core.encode FP.Core.b64 (FP.Core.round FP.Core.b64 (.fin (FP.Core.sumSign false true (FP.Core.sumUnits false (4503599627370496 + T) (-52) true (2 ^ 52) (-52) (-52))) (FP.Core.sumUnits false (4503599627370496 + T) (-52) true (2 ^ 52) (-52) (-52)).natAbs (-52)))) = _
    rw [hv, hs]
    rfl
  by_cases h0 : T = 0
  · rw [e, h0]
    have e0 : UInt64.ofNat (FP.Core.encode FP.Core.b64 (FP.Core.round FP.Core.b64 (.fin false 0 (-52)))) = 0 := by decide +kernel
    rw [e0]
    exact ⟨by decide +kernel, by decide +kernel, by decide +kernel⟩
  · have hl1 : 2 ^ T.log2 ≤ T := Nat.log2_self_le h0
    have hl2 : T < 2 ^ (T.log2 + 1) := Nat.lt_log2_self
    have hj : T.log2 < 52 := (Nat.log2_lt h0).mpr hT
    generalize T.log2 = j at hl1 hl2 hj
    obtain ⟨r1, r2⟩ := rnd_up (e := -52) hl1 hl2 (by omega) (by omega)
    rw [r1, d_enc r2] at e
    have r3 : Dk (T * 2 ^ (52 - j)) (-52 + (j : Int) - 52 + 0 + ((52 : Nat) : Int)) := ⟨r2.1, by omega, by omega⟩
    have em : FP.dmul (dD (T * 2 ^ (52 - j)) (-52 + (j : Int) - 52)) (FP.l2d ((1 : Int64) <<< ((52 : Int32).toInt64 &&& 63))) = dD (T * 2 ^ (52 - j)) (-52 + (j : Int) - 52 + 0 + ((52 : Nat) : Int)) := d_mul r2 r3 l52_dec
    rw [show FP.dsub (dD (4503599627370496 + T) (-52)) FP.dconst1 = dD (T * 2 ^ (52 - j)) (-52 + (j : Int) - 52) from e, em]
    refine ⟨dD_z r2, dD_z r3, ?_⟩
    show Int64.ofInt (FP.Core.toInt (-2 ^ 63) (2 ^ 63 - 1) (FP.Core.decode FP.Core.b64 (dD (T * 2 ^ (52 - j)) (-52 + (j : Int) - 52 + 0 + ((52 : Nat) : Int))).toNat)) = _
    rw [dD_dec r3]
    show Int64.ofInt (max (-2 ^ 63) (min (2 ^ 63 - 1) ((T * 2 ^ (52 - j) * 2 ^ (-52 + (j : Int) - 52 + 0 + ((52 : Nat) : Int)).toNat / 2 ^ (-(-52 + (j : Int) - 52 + 0 + ((52 : Nat) : Int))).toNat : Nat) : Int))) = _
    rw [show (-52 + (j : Int) - 52 + 0 + ((52 : Nat) : Int)).toNat = 0 by omega, show (-(-52 + (j : Int) - 52 + 0 + ((52 : Nat) : Int))).toNat = 52 - j by omega, Nat.pow_zero, Nat.mul_one, Nat.mul_div_cancel _ (Nat.two_pow_pos _)]
    congr 1
    omega
/-- the bits told by the class's own way: the last step -/
theorem sh52 : ∀ E : Nat, E < 1024 → ((nI E).toInt64) <<< ((52 : Int32).toInt64 &&& 63) = Int64.ofInt ((E * 4503599627370496 : Nat) : Int) := by decide +kernel
theorem i64_of {n : Nat} : (UInt64.ofNat n).toInt64 = Int64.ofInt (n : Int) := by
  apply Int64.toBitVec_inj.mp
  show BitVec.ofNat 64 n = BitVec.ofInt 64 (n : Int)
  exact (BitVec.ofInt_natCast ..).symm
theorem d_b72 {T E : Nat} (hT : T < 4503599627370496) (hE : E < 1024) : qb72 52 (dD (4503599627370496 + T) (-52)) (nI E) = some (Int64.ofInt ((E * 4503599627370496 + T : Nat) : Int)) := by
  obtain ⟨h1, h2, h3⟩ := d_frac hT
  unfold qb72
  rw [if_pos h1, if_pos h2, h3, sh52 E hE, ← Int64.ofInt_add]
  rfl
theorem d_b45 : ∀ (r n T E : Nat) (q : Int), T < 4503599627370496 → q = -52 - (r : Int) → r < 100 → E < 1024 → 500 + r < E → r < n → qb45 n 52 (dD (4503599627370496 + T) q) (nI E) = some (Int64.ofInt (((E - r) * 4503599627370496 + T : Nat) : Int)) := by
  intro r
  induction r with
  | zero =>
    intro n T E q hT hq hr hE hE2 hn
    obtain ⟨n, rfl⟩ : ∃ m, n = m + 1 := ⟨n - 1, by omega⟩
    have hq' : q = -52 := by omega
    subst hq'
    rw [qb45, if_pos (d_cmp_1 ⟨⟨by omega, by omega⟩, by decide, by decide⟩), d_b72 hT hE]
    rfl
  | succ r ih =>
    intro n T E q hT hq hr hE hE2 hn
    obtain ⟨n, rfl⟩ : ∃ m, n = m + 1 := ⟨n - 1, by omega⟩
    have hD : Dk (4503599627370496 + T) q := ⟨⟨by omega, by omega⟩, by omega, by omega⟩
    have hD1 : Dk (4503599627370496 + T) (q + 1) := ⟨⟨by omega, by omega⟩, by omega, by omega⟩
    rw [qb45, d_cmp_lt hD (show q < -52 by omega) one_dec, if_neg (by decide), if_neg (show ¬ nI E ≤ 1 from pge (a := 1) (by omega) (by omega)), d_mul2 hD hD1, if_pos (dD_z hD1)]
    have hp : nI E + -1 = nI (E - 1) := by
      obtain ⟨E, rfl⟩ : ∃ m, E = m + 1 := ⟨E - 1, by omega⟩
      rw [show nI (E + 1) + -1 = nI (E + 1) - 1 from (Int32.sub_eq_add_neg ..).symm, nI_pred]
      rfl
    rw [hp, ih n T (E - 1) (q + 1) hT (by omega) (by omega) (by omega) (by omega) (by omega), show E - 1 - r = E - (r + 1) by omega]
/-! PURE: the shares' bits -/
theorem okD_dD {c r : Nat} {q : Int} (h : 4503599627370496 ≤ c ∧ c < 9007199254740992) (hq : q = -52 - (r : Int)) (h1 : 1 ≤ r) (h2 : r < 100) : okD (dD c q) = true := by
  have hD : Dk c q := ⟨h, by omega, by omega⟩
  obtain ⟨T, rfl⟩ : ∃ T, c = 4503599627370496 + T := ⟨c - 4503599627370496, by omega⟩
  have hT : T < 4503599627370496 := by omega
  have hb : qbits (dD (4503599627370496 + T) q) 52 1023 = some (dD (4503599627370496 + T) q).toInt64 := by
    unfold qbits
    rw [d_cmp_0 hD, if_pos (by decide), show z_F = 1199 + 1 from rfl, qb14, d_cmp_lt hD (show q < -51 by omega) two_dec, if_pos (by decide), show (1023 : Int32) = nI 1023 from rfl, d_b45 r z_F T 1023 q hT hq h2 (by decide) (by omega) (by have := zF1200; omega)]
    unfold dD
    rw [i64_of]
    unfold dn
    rw [show (1023 - r) * 4503599627370496 + T = (q + 1074).toNat * 4503599627370496 + (4503599627370496 + T) by omega]
  unfold okD
  rw [Bool.and_eq_true, Bool.and_eq_true]
  exact ⟨⟨decide_eq_true (dD_z hD), decide_eq_true (by rw [d_cmp_rf hD]; rfl)⟩, decide_eq_true hb⟩
theorem i2d_n {s : Nat} (h : s ≠ 0) (hs : s < 4096) : FP.i2d (nI s) = dD (s * 2 ^ (52 - s.log2)) ((s.log2 : Int) - 52) ∧ Dk (s * 2 ^ (52 - s.log2)) ((s.log2 : Int) - 52) := by
  have hl : s.log2 < 12 := (Nat.log2_lt h).mpr hs
  obtain ⟨r1, r2⟩ := rnd_up (e := 0) (Nat.log2_self_le h) (Nat.lt_log2_self (n := s)) (by omega) (by omega)
  rw [Int.zero_add] at r1 r2
  refine ⟨?_, r2⟩
  show UInt64.ofNat (FP.Core.encode FP.Core.b64 (FP.Core.round FP.Core.b64 (FP.Core.ofInt (nI s).toInt))) = _
  rw [nI_toInt (by omega)]
  show UInt64.ofNat (FP.Core.encode FP.Core.b64 (FP.Core.round FP.Core.b64 (.fin (decide ((s : Int) < 0)) s 0))) = _
  rw [decide_eq_false (show ¬ (s : Int) < 0 by omega), r1, d_enc r2]
  rfl
theorem d_div {m1 m2 : Nat} {q1 q2 : Int} (h1 : Dk m1 q1) (h2 : Dk m2 q2) (he : -900 ≤ q1 - q2 ∧ q1 - q2 ≤ 900) : ∃ c : Nat, FP.ddiv (dD m1 q1) (dD m2 q2) = dD c (if m2 ≤ m1 then q1 - q2 - 52 else q1 - q2 - 53) ∧ Dk c (if m2 ≤ m1 then q1 - q2 - 52 else q1 - q2 - 53) := by
  obtain ⟨c, e1, e2⟩ := rnd_div h1.1 h2.1 he
  refine ⟨c, ?_, e2⟩
  show UInt64.ofNat (FP.Core.encode FP.Core.b64 (FP.Core.quotient FP.Core.b64 (FP.Core.decode FP.Core.b64 (dD m1 q1).toNat) (FP.Core.decode FP.Core.b64 (dD m2 q2).toNat))) = _
  rw [dD_dec h1, dD_dec h2]
  show UInt64.ofNat (FP.Core.encode FP.Core.b64 (if m2 = 0 then (if m1 = 0 then .nan else .inf (false != false)) else FP.Core.roundRatio FP.Core.b64 (false != false) m1 m2 (q1 - q2))) = _
  rw [if_neg (show ¬ m2 = 0 by have := h2.1.1; omega), show (false != false) = false from rfl, e1, d_enc e2]
  rfl
theorem dbl_0 : ∀ c : Nat, c < 25 → 1 ≤ c → okD (FP.ddiv (FP.i2d (nI 0)) (FP.i2d (100 * nI c))) = true := by decide +kernel
theorem dbl_ok (c s : Nat) (h1 : 1 ≤ c) (h2 : c ≤ 24) (h3 : s ≤ 85 * c) : okD (FP.ddiv (FP.i2d (nI s)) (FP.i2d (100 * nI c))) = true := by
  by_cases h0 : s = 0
  · rw [h0]; exact dbl_0 c (by omega) h1
  · rw [show (100 : Int32) * nI c = nI (100 * c) by rw [show (100 : Int32) = nI 100 from rfl, pmul]]
    obtain ⟨a1, a2⟩ := i2d_n h0 (show s < 4096 by omega)
    obtain ⟨b1, b2⟩ := i2d_n (show 100 * c ≠ 0 by omega) (show 100 * c < 4096 by omega)
    have l1 : s.log2 < 12 := (Nat.log2_lt h0).mpr (by omega)
    have l2 : (100 * c).log2 < 12 := (Nat.log2_lt (by omega)).mpr (by omega)
    have hj : s.log2 ≤ (100 * c).log2 := (Nat.le_log2 (by omega)).mpr (Nat.le_trans (Nat.log2_self_le h0) (by omega))
    rw [a1, b1]
    obtain ⟨m, e1, e2⟩ := d_div a2 b2 (by omega)
    rw [e1]
    by_cases hm : 100 * c * 2 ^ (52 - (100 * c).log2) ≤ s * 2 ^ (52 - s.log2)
    · rw [if_pos hm] at e2 ⊢
      have hne : s.log2 ≠ (100 * c).log2 := fun q => by
        rw [q] at hm
        have := Nat.le_of_mul_le_mul_right hm (Nat.two_pow_pos _)
        omega
      exact okD_dD (r := (100 * c).log2 - s.log2) e2.1 (by omega) (by omega) (by omega)
    · rw [if_neg hm] at e2 ⊢
      exact okD_dD (r := (100 * c).log2 - s.log2 + 1) e2.1 (by omega) (by omega) (by omega)
