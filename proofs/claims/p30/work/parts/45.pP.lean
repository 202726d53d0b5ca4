/-! PURE: chains, the reference's steps -/
theorem l1010 : (1010 : Int32) = nI 1010 := rfl
theorem zF1200 : z_F = 1200 := rfl
theorem p101d {a : Nat} (h : a < 2 ^ 31) : nI a / 101 = nI (a / 101) := by
  apply Int32.toInt_inj.mp
  rw [i_div (by rw [nI_toInt h]; omega) (by decide), nI_toInt h, nI_toInt (by omega), show (101 : Int32).toInt = 101 by decide]
  omega
theorem p101r {a : Nat} (h : a < 2 ^ 31) : nI a - nI (a / 101) * 101 = nI (a % 101) := by
  rw [show (101 : Int32) = nI 101 from rfl, pmul]
  apply Int32.toInt_inj.mp
  rw [i_sub (by rw [nI_toInt h, nI_toInt (by omega)]; omega) (by rw [nI_toInt h, nI_toInt (by omega)]; omega), nI_toInt h, nI_toInt (by omega), nI_toInt (by omega)]
  omega
theorem qi_b {k : Nat} (l : Nat) (hk : k < 1010) : qi k l < 1010 := by
  have he := (qe_b k l).1
  unfold qi; omega
