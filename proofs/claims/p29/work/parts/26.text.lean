/-! texts: n characters, tx their numbers -/
def sx_at (n : Nat) (tx : Nat → Int) (z : Int) : Int := if 0 ≤ z ∧ z < (n : Int) then tx z.toNat else -1
def sx_rg (tx : Nat → Int) : Prop := ∀ i, 0 ≤ tx i ∧ tx i ≤ 255
theorem sx_at_ran {n : Nat} {tx : Nat → Int} (h : sx_rg tx) (z : Int) : -1 ≤ sx_at n tx z ∧ sx_at n tx z ≤ 255 := by
  unfold sx_at
  split
  · have := h z.toNat
    omega
  · omega
theorem sx_at_in {n : Nat} {tx : Nat → Int} {z : Int} (h : 0 ≤ z ∧ z < (n : Int)) : sx_at n tx z = tx z.toNat := if_pos h
theorem sx_at_out {n : Nat} {tx : Nat → Int} {z : Int} (h : ¬ (0 ≤ z ∧ z < (n : Int))) : sx_at n tx z = -1 := if_neg h
def sx_len (c : Int) : Nat := if c = 99 then 3 else if c = 119 ∨ c = 103 then 1 else 0
def sx_cmd (c : Int) : Bool := decide (c = 99 ∨ c = 119 ∨ c = 103 ∨ c = 112 ∨ c = 98)
def sx_al (c p s : Int) : Bool := if c = 103 then decide (48 ≤ s ∧ s ≤ 50) else if c = 99 ∧ p = 3 then decide (49 ≤ s ∧ s ≤ 51) else decide (48 ≤ s ∧ s ≤ 53)
def sx_g (n : Nat) (tx : Nat → Int) : Nat → Nat → Nat
  | 0, i => i
  | k + 1, i => if 48 ≤ sx_at n tx (i : Int) ∧ sx_at n tx (i : Int) ≤ 51 then sx_g n tx k (i + 1) else i
/-- behind the digits of the stems -/
def sx_bs (n : Nat) (tx : Nat → Int) : Nat := sx_g n tx 6 1
theorem sx_g_ran (n : Nat) (tx : Nat → Int) : ∀ k i, i ≤ sx_g n tx k i ∧ sx_g n tx k i ≤ i + k
  | 0, i => ⟨Nat.le_refl _, Nat.le_refl _⟩
  | k + 1, i => by
    rw [sx_g]
    split
    · have := sx_g_ran n tx k (i + 1)
      omega
    · omega
theorem sx_bs_ran (n : Nat) (tx : Nat → Int) : 1 ≤ sx_bs n tx ∧ sx_bs n tx ≤ 7 := sx_g_ran n tx 6 1
theorem sx_g_dig (n : Nat) (tx : Nat → Int) : ∀ k i j, i ≤ j → j < sx_g n tx k i → 48 ≤ sx_at n tx (j : Int) ∧ sx_at n tx (j : Int) ≤ 51
  | 0, i, j, h1, h2 => by rw [sx_g] at h2; omega
  | k + 1, i, j, h1, h2 => by
    rw [sx_g] at h2
    split at h2
    · next q =>
      rcases Nat.lt_or_ge i j with g | g
      · exact sx_g_dig n tx k (i + 1) j g h2
      · obtain rfl : i = j := by omega
        exact q
    · omega
/-- m digits from i on, as a hedge -/
def sx_h (tx : Nat → Int) : Nat → Nat → Nat
  | _, 0 => 0
  | i, m + 1 => (tx i - 48).toNat + 4 * sx_h tx (i + 1) m
def sx_fl (n : Nat) (tx : Nat → Int) (i : Nat) (c : Int) : Nat → Nat → Int
  | 0, _ => -1
  | k + 1, p => if sx_al c (p : Int) (sx_at n tx ((i + p : Nat) : Int)) = true then sx_fl n tx i c k (p + 1) else ((i + p : Nat) : Int)
/-- the fault of the command at i; -1: none -/
def sx_fc (n : Nat) (tx : Nat → Int) (i : Nat) : Int := if sx_cmd (sx_at n tx (i : Int)) = true then sx_fl n tx i (sx_at n tx (i : Int)) (sx_len (sx_at n tx (i : Int))) 1 else (i : Int)
def sx_ff (n : Nat) (tx : Nat → Int) : Nat → Nat → Int
  | 0, _ => -1
  | k + 1, i => if i < n then (if sx_fc n tx i = -1 then sx_ff n tx k (i + 1 + sx_len (sx_at n tx (i : Int))) else sx_fc n tx i) else -1
/-- where the text is wrong; -1: nowhere -/
def sx_err (n : Nat) (tx : Nat → Int) : Int := if sx_at n tx 0 = 72 then (if sx_bs n tx ≤ 2 then (sx_bs n tx : Int) else sx_ff n tx 120 (sx_bs n tx)) else 0
theorem sx_fl_ran (n : Nat) (tx : Nat → Int) (i : Nat) (c : Int) : ∀ k p, sx_fl n tx i c k p = -1 ∨ (0 ≤ sx_fl n tx i c k p ∧ sx_fl n tx i c k p ≤ ((i + p + k : Nat) : Int))
  | 0, p => Or.inl rfl
  | k + 1, p => by
    rw [sx_fl]
    split
    · rcases sx_fl_ran n tx i c k (p + 1) with h | h
      · exact Or.inl h
      · exact Or.inr ⟨h.1, by omega⟩
    · exact Or.inr ⟨by omega, by omega⟩
theorem sx_len3 (c : Int) : sx_len c ≤ 3 := by
  unfold sx_len
  split
  · omega
  · split <;> omega
theorem sx_fc_ran (n : Nat) (tx : Nat → Int) (i : Nat) : -1 ≤ sx_fc n tx i ∧ sx_fc n tx i ≤ ((i + 4 : Nat) : Int) := by
  unfold sx_fc
  have h1 := sx_len3 (sx_at n tx (i : Int))
  split
  · rcases sx_fl_ran n tx i (sx_at n tx (i : Int)) (sx_len (sx_at n tx (i : Int))) 1 with h | h <;> omega
  · omega
