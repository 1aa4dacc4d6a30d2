/-! hedges by numbers -/
theorem sp_all {N : Nat} {P : Nat → Prop} [DecidablePred P] (h : (List.range N).all (fun i => decide (P i)) = true) : ∀ i : Nat, i < N → P i := fun i hi => of_decide_eq_true (List.all_eq_true.mp h i (List.mem_range.mpr hi))
def sp_dg (h i : Nat) : Nat := h / 4 ^ i % 4
def sp_cut (h k a : Nat) : Nat → Nat
  | 0 => h
  | n + 1 => sp_cut h k a n - min k (sp_dg h (a + n)) * 4 ^ (a + n)
def sp_pop (n : Nat) : Nat := n % 2 + n / 2 % 2 + n / 4 % 2 + n / 8 % 2 + n / 16 % 2 + n / 32 % 2 + n / 64 % 2 + n / 128 % 2 + n / 256 % 2 + n / 512 % 2 + n / 1024 % 2 + n / 2048 % 2
def sp_lf (h : Nat) : Nat := (h ||| h / 2) &&& 1365
/-- stems with leaves -/
def sp_lc (h : Nat) : Nat := sp_pop (sp_lf h)
/-- all leaves -/
def sp_lv (h : Nat) : Nat := sp_dg h 0 + sp_dg h 1 + sp_dg h 2 + sp_dg h 3 + sp_dg h 4 + sp_dg h 5
/-- the wind takes a leaf of the stem i -/
def sp_ls (S w h i : Nat) : Bool := if w = 1 then decide (0 < i) && decide (sp_dg h (i - 1) = 0) && decide (0 < sp_dg h i) else decide (i + 1 < S) && decide (sp_dg h (i + 1) = 0) && decide (0 < sp_dg h i)
def sp_blL (S w h : Nat) : Nat → Nat
  | 0 => h
  | n + 1 => sp_blL S w h n - if sp_ls S w h n = true then 4 ^ n else 0
def sp_bl (S w h : Nat) : Nat := if w = 0 then h else sp_blL S w h S
/-- the hedge behind a clip, told by its number -/
def sp_cc (h c : Nat) : Nat := sp_cut h (c % 10) (c / 100) (c / 10 % 10 + 1 - c / 100)
def sp_bh (S w h c : Nat) : Nat := sp_bl S w (sp_cc h c)
theorem sp_dg_lt (h i : Nat) : sp_dg h i < 4 := Nat.mod_lt _ (by decide)
theorem sp_dg_mul (h j : Nat) : h / 4 ^ j * 4 ^ j = h / 4 ^ (j + 1) * 4 ^ (j + 1) + sp_dg h j * 4 ^ j := by
  have h1 : h / 4 ^ (j + 1) = h / 4 ^ j / 4 := by rw [Nat.pow_succ, Nat.div_div_eq_div_mul]
  rw [h1, Nat.pow_succ, sp_dg]
  generalize h / 4 ^ j = x
  generalize 4 ^ j = y
  have h2 : x = x / 4 * 4 + x % 4 := by omega
  calc x * y = (x / 4 * 4 + x % 4) * y := by rw [← h2]
    _ = x / 4 * (y * 4) + x % 4 * y := by rw [Nat.add_mul, Nat.mul_assoc, Nat.mul_comm 4 y]
theorem sp_cut_ge (h k a : Nat) : ∀ n, h / 4 ^ (a + n) * 4 ^ (a + n) ≤ sp_cut h k a n ∧ sp_cut h k a n ≤ h
  | 0 => ⟨Nat.div_mul_le_self _ _, Nat.le_refl _⟩
  | n + 1 => by
    obtain ⟨h1, h2⟩ := sp_cut_ge h k a n
    have h3 := sp_dg_mul h (a + n)
    have h4 : min k (sp_dg h (a + n)) * 4 ^ (a + n) ≤ sp_dg h (a + n) * 4 ^ (a + n) := Nat.mul_le_mul_right _ (Nat.min_le_right _ _)
    rw [sp_cut]
    rw [← Nat.add_assoc]
    omega
theorem sp_cut_sub (h k a n : Nat) : min k (sp_dg h (a + n)) * 4 ^ (a + n) ≤ sp_cut h k a n := by
  obtain ⟨h1, h2⟩ := sp_cut_ge h k a n
  have h3 := sp_dg_mul h (a + n)
  have h4 : min k (sp_dg h (a + n)) * 4 ^ (a + n) ≤ sp_dg h (a + n) * 4 ^ (a + n) := Nat.mul_le_mul_right _ (Nat.min_le_right _ _)
  omega
theorem sp_cut_succ (h k a n : Nat) : (sp_cut h k a (n + 1) : Int) = (sp_cut h k a n : Int) - ((min k (sp_dg h (a + n)) * 4 ^ (a + n) : Nat) : Int) := by
  rw [sp_cut, Int.ofNat_sub (sp_cut_sub h k a n)]
theorem sp_blL_ge (S w h : Nat) : ∀ n, h / 4 ^ n * 4 ^ n ≤ sp_blL S w h n ∧ sp_blL S w h n ≤ h
  | 0 => ⟨Nat.div_mul_le_self _ _, Nat.le_refl _⟩
  | n + 1 => by
    obtain ⟨h1, h2⟩ := sp_blL_ge S w h n
    have h3 := sp_dg_mul h n
    rw [sp_blL]
    split
    · next hq =>
      have h5 : 0 < sp_dg h n := by
        unfold sp_ls at hq
        split at hq <;> (simp only [Bool.and_eq_true, decide_eq_true_eq] at hq; omega)
      have h4 : 1 * 4 ^ n ≤ sp_dg h n * 4 ^ n := Nat.mul_le_mul_right _ h5
      omega
    · omega
theorem sp_blL_sub {S w h n : Nat} (hq : sp_ls S w h n = true) : 4 ^ n ≤ sp_blL S w h n := by
  obtain ⟨h1, h2⟩ := sp_blL_ge S w h n
  have h3 := sp_dg_mul h n
  have h5 : 0 < sp_dg h n := by
    unfold sp_ls at hq
    split at hq <;> (simp only [Bool.and_eq_true, decide_eq_true_eq] at hq; omega)
  have h4 : 1 * 4 ^ n ≤ sp_dg h n * 4 ^ n := Nat.mul_le_mul_right _ h5
  omega
theorem sp_bl_le (S w h : Nat) : sp_bl S w h ≤ h := by
  unfold sp_bl
  split
  · exact Nat.le_refl _
  · exact (sp_blL_ge S w h S).2
theorem sp_cc_le (h c : Nat) : sp_cc h c ≤ h := (sp_cut_ge _ _ _ _).2
theorem sp_bh_le (S w h c : Nat) : sp_bh S w h c ≤ h := Nat.le_trans (sp_bl_le _ _ _) (sp_cc_le _ _)
/-! the machine's bits -/
theorem sp_sh : ∀ i : Nat, i < 8 → ((zI (2 * (i : Int)) &&& 31).toBitVec.smod 32).toNat = 2 * i := sp_all (by decide +kernel)
theorem sp_leaf {h i : Nat} (hh : h < 2 ^ 31) (hi : i < 8) : (zI (h : Int) >>> (zI (2 * (i : Int)) &&& 31)) &&& 3 = zI (sp_dg h i : Int) := by
  rw [zI_nat, pk_shrN hh _ (2 * i) (sp_sh i hi), pk_andN (Nat.lt_of_le_of_lt (Nat.div_le_self _ _) (by omega)) 2 (by decide +kernel), zI_nat, sp_dg, Nat.pow_mul]
theorem sp_shl : ∀ i : Nat, i < 8 → ∀ v : Nat, v < 4 → zI (v : Int) <<< (zI (2 * (i : Int)) &&& 31) = zI ((v * 4 ^ i : Nat) : Int) := by
  intro i hi
  have h : ∀ i : Nat, i < 8 → (List.range 4).all (fun v : Nat => decide (zI (v : Int) <<< (zI (2 * (i : Int)) &&& 31) = zI ((v * 4 ^ i : Nat) : Int))) = true := sp_all (by decide +kernel)
  exact fun v hv => of_decide_eq_true (List.all_eq_true.mp (h i hi) v (List.mem_range.mpr hv))

theorem sp_sh1 : ∀ i : Nat, i < 8 → (1 : Int32) <<< (zI (2 * (i : Int)) &&& 31) = zI ((4 ^ i : Nat) : Int) := sp_all (by decide +kernel)
def sp_u (x k : Int32) : Int32 := (x.toUInt32 >>> (k.toUInt32 &&& Int32.toUInt32 31)).toInt32
def sp_b1 (x : Int32) : Int32 := x - (sp_u x 1 &&& 1431655765)
def sp_b2 (x : Int32) : Int32 := (x &&& 858993459) + (sp_u x 2 &&& 858993459)
def sp_b3 (x : Int32) : Int32 := (x + sp_u x 4) &&& 252645135
def sp_b4 (x : Int32) : Int32 := x + sp_u x 8
def sp_b5 (x : Int32) : Int32 := x + sp_u x 16
def sp_bcx (x : Int32) : Int32 := sp_b5 (sp_b4 (sp_b3 (sp_b2 (sp_b1 x)))) &&& 63
theorem sp_bc : ∀ n : Nat, n < 4096 → sp_bcx (zI (n : Int)) = zI (sp_pop n : Int) := sp_all (by decide +kernel)
theorem sp_lfx : ∀ n : Nat, n < 4096 → (zI (n : Int) ||| (zI (n : Int) >>> (zI 1 &&& 31))) &&& zI 1365 = zI (sp_lf n : Int) := sp_all (by decide +kernel)
theorem sp_lo : ∀ n : Nat, n < 4096 → zI (n : Int) &&& zI 1365 = zI ((n &&& 1365 : Nat) : Int) := sp_all (by decide +kernel)
theorem sp_hi : ∀ n : Nat, n < 4096 → (zI (n : Int) >>> (zI 1 &&& 31)) &&& zI 1365 = zI ((n / 2 &&& 1365 : Nat) : Int) := sp_all (by decide +kernel)
theorem sp_lo_lt (n : Nat) : n &&& 1365 < 4096 := Nat.lt_of_le_of_lt Nat.and_le_right (by decide)
theorem sp_lf_lt (n : Nat) : sp_lf n < 4096 := Nat.lt_of_le_of_lt Nat.and_le_right (by decide)
theorem sp_lvx : ∀ n : Nat, n < 4096 → (sp_pop (n &&& 1365) : Int) + 2 * (sp_pop (n / 2 &&& 1365) : Int) = (sp_lv n : Int) := sp_all (by decide +kernel)
theorem sp_hlt {S h : Nat} (hS : S ≤ 6) (hh : h < 4 ^ S) : h < 4096 := Nat.lt_of_lt_of_le hh (Nat.pow_le_pow_right (by decide) hS : 4 ^ S ≤ 4 ^ 6)
def sp_x1 (h : Nat) : Int32 := zI (h : Int) - (zI (sp_lf h : Int) &&& (((zI (sp_lf h : Int) <<< (zI 2 &&& 31)) ||| zI 1) ^^^ zI (-1)))
def sp_x2 (S h : Nat) : Int32 := zI (h : Int) - (zI (sp_lf h : Int) &&& (((zI (sp_lf h : Int) >>> (zI 2 &&& 31)) ||| (zI 1 <<< (zI (2 * ((S : Int) - 1)) &&& 31))) ^^^ zI (-1)))
theorem sp_bx1 (S : Nat) (hS : 2 ≤ S ∧ S ≤ 6) : ∀ h, h < 4 ^ S → sp_x1 h = zI (sp_bl S 1 h : Int) := by
  intro h hh
  rcases (show S = 2 ∨ S = 3 ∨ S = 4 ∨ S = 5 ∨ S = 6 by omega) with rfl | rfl | rfl | rfl | rfl
  · exact (co_dec (N := 16) (P := fun h => sp_x1 h = zI (sp_bl 2 1 h : Int)) (by decide +kernel)) hh
  · exact (co_dec (N := 64) (P := fun h => sp_x1 h = zI (sp_bl 3 1 h : Int)) (by decide +kernel)) hh
  · exact (co_dec (N := 256) (P := fun h => sp_x1 h = zI (sp_bl 4 1 h : Int)) (by decide +kernel)) hh
  · exact (co_dec (N := 1024) (P := fun h => sp_x1 h = zI (sp_bl 5 1 h : Int)) (by decide +kernel)) hh
  · exact (co_dec (N := 4096) (P := fun h => sp_x1 h = zI (sp_bl 6 1 h : Int)) (by decide +kernel)) hh
theorem sp_bx2 (S : Nat) (hS : 2 ≤ S ∧ S ≤ 6) : ∀ h, h < 4 ^ S → sp_x2 S h = zI (sp_bl S 2 h : Int) := by
  intro h hh
  rcases (show S = 2 ∨ S = 3 ∨ S = 4 ∨ S = 5 ∨ S = 6 by omega) with rfl | rfl | rfl | rfl | rfl
  · exact (co_dec (N := 16) (P := fun h => sp_x2 2 h = zI (sp_bl 2 2 h : Int)) (by decide +kernel)) hh
  · exact (co_dec (N := 64) (P := fun h => sp_x2 3 h = zI (sp_bl 3 2 h : Int)) (by decide +kernel)) hh
  · exact (co_dec (N := 256) (P := fun h => sp_x2 4 h = zI (sp_bl 4 2 h : Int)) (by decide +kernel)) hh
  · exact (co_dec (N := 1024) (P := fun h => sp_x2 5 h = zI (sp_bl 5 2 h : Int)) (by decide +kernel)) hh
  · exact (co_dec (N := 4096) (P := fun h => sp_x2 6 h = zI (sp_bl 6 2 h : Int)) (by decide +kernel)) hh
/-- which leaves a clip takes doesn't matter for whether it takes one -/
theorem sp_cut_eq (h a : Nat) {k : Nat} (hk : 1 ≤ k) : ∀ n, sp_cut h k a n = h ↔ ∀ i, i < n → sp_dg h (a + i) = 0
  | 0 => ⟨fun _ i hi => absurd hi (Nat.not_lt_zero _), fun _ => rfl⟩
  | n + 1 => by
    have ih := sp_cut_eq h a hk n
    have h1 := (sp_cut_ge h k a n).2
    have h2 := sp_cut_sub h k a n
    rw [sp_cut]
    constructor
    · intro e
      have e1 : sp_cut h k a n = h := by omega
      have e2 : min k (sp_dg h (a + n)) * 4 ^ (a + n) = 0 := by omega
      have e3 : min k (sp_dg h (a + n)) = 0 := by
        rcases Nat.mul_eq_zero.mp e2 with q | q
        · exact q
        · exact absurd q (Nat.ne_of_gt (Nat.pow_pos (by decide)))
      intro i hi
      rcases Nat.lt_or_ge i n with g | g
      · exact ih.mp e1 i g
      · obtain rfl : i = n := by omega
        omega
    · intro e
      rw [ih.mpr (fun i hi => e i (by omega)), e n (by omega), Nat.min_zero, Nat.zero_mul, Nat.sub_zero]
theorem sp_cn {h a b k : Nat} (hab : a ≤ b) (hb : b < 10) (hk : 1 ≤ k ∧ k ≤ 9) : sp_cc h (100 * a + 10 * b + k) = h ↔ sp_cc h (100 * a + 10 * b + 3) = h := by
  unfold sp_cc
  rw [show (100 * a + 10 * b + k) % 10 = k by omega, show (100 * a + 10 * b + k) / 100 = a by omega, show (100 * a + 10 * b + k) / 10 % 10 = b by omega, show (100 * a + 10 * b + 3) % 10 = 3 by omega, show (100 * a + 10 * b + 3) / 100 = a by omega, show (100 * a + 10 * b + 3) / 10 % 10 = b by omega, sp_cut_eq h a hk.1, sp_cut_eq h a (by decide)]
theorem sp_cn_t {h : Nat} {a b k : Int} (hab : 0 ≤ a ∧ a ≤ b) (hb : b < 10) (hk : 1 ≤ k ∧ k ≤ 3) (e : ¬ sp_cc h (100 * a.toNat + 10 * b.toNat + 3) = h) : ¬ sp_cc h (100 * a + 10 * b + k).toNat = h := by
  rw [show (100 * a + 10 * b + k).toNat = 100 * a.toNat + 10 * b.toNat + k.toNat by omega, sp_cn (by omega) (by omega) (by omega)]
  exact e
theorem sp_cn_f {h : Nat} {a b k : Int} (hab : 0 ≤ a ∧ a ≤ b) (hb : b < 10) (hk : 1 ≤ k ∧ k ≤ 3) (e : ¬ sp_cc h (100 * a + 10 * b + k).toNat = h) : ¬ sp_cc h (100 * a.toNat + 10 * b.toNat + 3) = h := by
  rw [show (100 * a + 10 * b + k).toNat = 100 * a.toNat + 10 * b.toNat + k.toNat by omega, sp_cn (by omega) (by omega) (by omega)] at e
  exact e
