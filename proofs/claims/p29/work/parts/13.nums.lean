/-! ints of the machine by whole numbers -/
def zI (z : Int) : Int32 := Int32.ofInt z
def zR (z : Int) : Prop := -2147483648 ≤ z ∧ z < 2147483648
theorem zI_nat (n : Nat) : zI (n : Int) = nI n := Int32.ofInt_eq_ofNat
theorem zI_add (a b : Int) : zI a + zI b = zI (a + b) := (Int32.ofInt_add a b).symm
theorem zI_sub (a b : Int) : zI a - zI b = zI (a - b) := (Int32.ofInt_sub a b).symm
theorem zI_mul (a b : Int) : zI a * zI b = zI (a * b) := (Int32.ofInt_mul a b).symm
theorem zI_neg (a : Int) : -zI a = zI (-a) := (Int32.ofInt_neg a).symm
theorem zI_toInt {a : Int} (h : -2147483648 ≤ a ∧ a < 2147483648) : (zI a).toInt = a := Int32.toInt_ofInt_of_le (by omega) (by omega)
theorem zI_of (x : Int32) : x = zI x.toInt := (Int32.ofInt_toInt x).symm
theorem zI_ran (x : Int32) : -2147483648 ≤ x.toInt ∧ x.toInt < 2147483648 := by
  have h1 := x.le_toInt
  have h2 := x.toInt_lt
  omega
theorem zI_lt {a b : Int} (h : (-2147483648 ≤ a ∧ a < 2147483648) ∧ -2147483648 ≤ b ∧ b < 2147483648) : zI a < zI b ↔ a < b := by
  rw [Int32.lt_iff_toInt_lt, zI_toInt h.1, zI_toInt h.2]
theorem zI_le {a b : Int} (h : (-2147483648 ≤ a ∧ a < 2147483648) ∧ -2147483648 ≤ b ∧ b < 2147483648) : zI a ≤ zI b ↔ a ≤ b := by
  rw [Int32.le_iff_toInt_le, zI_toInt h.1, zI_toInt h.2]
theorem zI_eq {a b : Int} (h : (-2147483648 ≤ a ∧ a < 2147483648) ∧ -2147483648 ≤ b ∧ b < 2147483648) : zI a = zI b ↔ a = b := by
  rw [← Int32.toInt_inj, zI_toInt h.1, zI_toInt h.2]
theorem zI_ne {a b : Int} (h : (-2147483648 ≤ a ∧ a < 2147483648) ∧ -2147483648 ≤ b ∧ b < 2147483648) : ¬ zI a = zI b ↔ ¬ a = b := by
  rw [zI_eq h]
theorem zI_0 : zI 0 = 0 := rfl
theorem zI_lt0 {a : Int} (h : -2147483648 ≤ a ∧ a < 2147483648) : zI a < 0 ↔ a < 0 := by
  rw [← zI_0]; exact zI_lt ⟨h, by omega⟩
theorem zI_ge0 {a : Int} (h : -2147483648 ≤ a ∧ a < 2147483648) : 0 ≤ zI a ↔ 0 ≤ a := by
  rw [← zI_0]; exact zI_le ⟨by omega, h⟩
theorem zI_le0 {a : Int} (h : -2147483648 ≤ a ∧ a < 2147483648) : zI a ≤ 0 ↔ a ≤ 0 := by
  rw [← zI_0]; exact zI_le ⟨h, by omega⟩
theorem zI_gt0 {a : Int} (h : -2147483648 ≤ a ∧ a < 2147483648) : 0 < zI a ↔ 0 < a := by
  rw [← zI_0]; exact zI_lt ⟨by omega, h⟩
theorem zI_eq0 {a : Int} (h : -2147483648 ≤ a ∧ a < 2147483648) : zI a = 0 ↔ a = 0 := by
  rw [← zI_0]; exact zI_eq ⟨h, by omega⟩
theorem zI_ne0 {a : Int} (h : -2147483648 ≤ a ∧ a < 2147483648) : ¬ zI a = 0 ↔ ¬ a = 0 := by
  rw [zI_eq0 h]
theorem zI_div {a b : Int} (h : 0 ≤ a ∧ a < 2147483648 ∧ 0 < b ∧ b < 2147483648) : zI a / zI b = zI (a / b) := by
  obtain ⟨m, rfl⟩ := Int.eq_ofNat_of_zero_le h.1
  obtain ⟨n, rfl⟩ := Int.eq_ofNat_of_zero_le (Int.le_of_lt h.2.2.1)
  rw [zI_nat, zI_nat, pk_div (by omega) (by omega) (by omega), ← Int.natCast_ediv, zI_nat]
theorem zI_rem {a b : Int} (h : 0 ≤ a ∧ a < 2147483648 ∧ 0 < b ∧ b < 2147483648) : zI a - zI a / zI b * zI b = zI (a % b) := by
  obtain ⟨m, rfl⟩ := Int.eq_ofNat_of_zero_le h.1
  obtain ⟨n, rfl⟩ := Int.eq_ofNat_of_zero_le (Int.le_of_lt h.2.2.1)
  rw [zI_nat, zI_nat, pk_rem (by omega) (by omega) (by omega), ← Int.natCast_emod, zI_nat]
theorem zI_ix {z : Int} {n : Nat} (h : z = (n : Int)) : zI z = nI n := by rw [h, zI_nat]
theorem zI_c {z w : Int} (h : z = w) : zI z = zI w := by rw [h]
/-- truth values -/
def zB (b : Bool) : Int := if b = true then 1 else 0
theorem zB_t : zB true = 1 := rfl
theorem zB_f : zB false = 0 := rfl
theorem zB_ran (b : Bool) : 0 ≤ zB b ∧ zB b ≤ 1 := by cases b <;> decide
theorem zB_0 {P : Prop} [Decidable P] : zI (zB (decide P)) = 0 ↔ ¬ P := by
  by_cases h : P
  · simp only [h, decide_true, not_true, iff_false]; decide
  · simp only [h, decide_false, not_false_iff, iff_true]; decide
theorem zB_n0 {P : Prop} [Decidable P] : ¬ zI (zB (decide P)) = 0 ↔ P := by
  rw [zB_0, Decidable.not_not]
theorem zB_T {P : Prop} [Decidable P] (h : P) : zB (decide P) = 1 := by rw [decide_eq_true h]; rfl
theorem zB_F {P : Prop} [Decidable P] (h : ¬ P) : zB (decide P) = 0 := by rw [decide_eq_false h]; rfl
theorem zB_n (b : Bool) : narrow .boolean (.int (zI (zB b))) = .int (zI (zB b)) := by cases b <;> decide +kernel
theorem zB_n1 : narrow .boolean (.int (zI 1)) = .int (zI 1) := by decide +kernel
theorem zB_n2 : narrow .boolean (.int (zI 0)) = .int (zI 0) := by decide +kernel
theorem hv_rv {a b : Int} (h : a = b) : some (Value.int (zI a)) = some (Value.int (zI b)) := by rw [h]
theorem zI_minN {a b : Nat} (ha : a < 2147483648) (hb : b < 2147483648) : (if zI (b : Int) < zI (a : Int) then zI (b : Int) else zI (a : Int)) = zI ((min a b : Nat) : Int) := by
  by_cases h : b < a
  · rw [if_pos ((zI_lt (by omega)).mpr (by omega)), Nat.min_eq_right (by omega)]
  · rw [if_neg (fun g => h (by have := (zI_lt (by omega)).mp g; omega)), Nat.min_eq_left (by omega)]
theorem zI_min {a b : Int} (h : (-2147483648 ≤ a ∧ a < 2147483648) ∧ -2147483648 ≤ b ∧ b < 2147483648) : (if zI b < zI a then zI b else zI a) = zI (min a b) := by
  by_cases g : b < a
  · rw [if_pos ((zI_lt (by omega)).mpr g), Int.min_eq_right (by omega)]
  · rw [if_neg (fun q => g ((zI_lt (by omega)).mp q)), Int.min_eq_left (by omega)]
theorem zI_max {a b : Int} (h : (-2147483648 ≤ a ∧ a < 2147483648) ∧ -2147483648 ≤ b ∧ b < 2147483648) : (if zI a < zI b then zI b else zI a) = zI (max a b) := by
  by_cases g : a < b
  · rw [if_pos ((zI_lt (by omega)).mpr g), Int.max_eq_right (by omega)]
  · rw [if_neg (fun q => g ((zI_lt (by omega)).mp q)), Int.max_eq_left (by omega)]
theorem zB_e {b : Bool} : zI (zB b) = 0 ↔ ¬ b = true := by cases b <;> decide
theorem zB_en {b : Bool} : ¬ zI (zB b) = 0 ↔ b = true := by cases b <;> decide
