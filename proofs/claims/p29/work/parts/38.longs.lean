/-! longs -/
def sm_u (x : Int64) : Int64 := (x.toUInt64 >>> 33).toInt64
def sm_r (x : Int64) : Int := ((x.toUInt64.toNat / 8589934592 : Nat) : Int)
theorem sm_r_ran (x : Int64) : 0 ≤ sm_r x ∧ sm_r x < 2147483648 := by
  have h := x.toUInt64.toNat_lt
  unfold sm_r
  omega
theorem sm_u_i (x : Int64) : (sm_u x).toInt32 = zI (sm_r x) := by
  have h := x.toUInt64.toNat_lt
  have h1 : (x.toUInt64 >>> 33).toNat = x.toUInt64.toNat / 8589934592 := by
    rw [UInt64.toNat_shiftRight]
    exact Nat.shiftRight_eq_div_pow _ 33
  apply Int32.toInt_inj.mp
  rw [zI_toInt (by have := sm_r_ran x; omega), Int64.toInt_toInt32]
  unfold sm_u sm_r
  rw [show (x.toUInt64 >>> 33).toInt64.toInt = (x.toUInt64 >>> 33).toBitVec.toInt from rfl, BitVec.toInt_eq_toNat_bmod, show (x.toUInt64 >>> 33).toBitVec.toNat = (x.toUInt64 >>> 33).toNat from rfl, h1]
  rw [Int.bmod_eq_of_le (n := ((x.toUInt64.toNat / 8589934592 : Nat) : Int)) (m := 2 ^ 64) (by omega) (by omega), Int.bmod_eq_of_le (by omega) (by omega)]
def sm_m (y : Int64) : Int64 := y - y / 10000 * 10000
theorem sm_d {y : Int64} (h : 0 ≤ y.toInt) : (y / 10000).toInt = y.toInt / 10000 := by
  have h2 := y.toInt_lt
  rw [Int64.toInt_div, show (10000 : Int64).toInt = 10000 from by decide, Int.tdiv_eq_ediv_of_nonneg h]
  exact Int.bmod_eq_of_le (by omega) (by omega)
theorem sm_m_i {y : Int64} (h : 0 ≤ y.toInt) : (sm_m y).toInt32 = zI (y.toInt % 10000) := by
  have h2 := y.toInt_lt
  have h3 : (sm_m y).toInt = y.toInt % 10000 := by
    unfold sm_m
    rw [Int64.toInt_sub, Int64.toInt_mul, sm_d h, show (10000 : Int64).toInt = 10000 from by decide, Int.bmod_eq_of_le (n := y.toInt / 10000 * 10000) (by omega) (by omega), Int.bmod_eq_of_le (by omega) (by omega)]
    omega
  apply Int32.toInt_inj.mp
  rw [zI_toInt (by omega), Int64.toInt_toInt32, h3, Int.bmod_eq_of_le (by omega) (by omega)]
theorem ox_wg_0 {x : Int64} (h : 0 ≤ x.toInt) : ∀ k, 0 ≤ (ox_wg x k).toInt
  | 0 => h
  | k + 1 => by
    have h1 := ox_wg_0 h k
    rw [ox_wg, sm_d h1]
    omega
theorem sm_cmp {x : Int64} (h : ¬ lg_cmp x 0 < 0) : 0 ≤ x.toInt := by
  rcases Int.lt_or_le x.toInt 0 with g | g
  · have h1 : ¬ x > 0 := fun q => by
      have q2 := Int64.lt_iff_toInt_lt.mp q
      rw [show (0 : Int64).toInt = 0 from by decide] at q2
      omega
    have h2 : ¬ x = 0 := fun q => by
      rw [q, show (0 : Int64).toInt = 0 from by decide] at g
      omega
    unfold lg_cmp at h
    rw [if_neg h1, if_neg h2] at h
    exact absurd (by decide) h
  · exact g
