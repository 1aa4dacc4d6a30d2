/-! the best clips, the clips of an outlook as they are laid -/
def wo_can (h c : Nat) : Bool := !decide (sp_cc h c = h)
def wo_isb (S w r h c : Nat) : Bool := decide (wo_gain S w (wo S w r) h c = wo S w r h)
def wo_cnt (p : Nat → Bool) (l : List Nat) : Nat := (l.filter p).length
theorem wo_cnt_step {p : Nat → Bool} {l : List Nat} {i : Nat} (hi : i < l.length) : wo_cnt p (l.take (i + 1)) = wo_cnt p (l.take i) + if p (l.getD i 0) = true then 1 else 0 := by
  rw [wo_take hi]
  unfold wo_cnt
  rw [List.filter_append, List.length_append]
  by_cases q : p (l.getD i 0) = true
  · rw [if_pos q, List.filter_cons_of_pos q]
    rfl
  · rw [if_neg q, List.filter_cons_of_neg q]
    rfl
theorem wo_cnt_le {p : Nat → Bool} {l : List Nat} {i : Nat} : wo_cnt p (l.take i) ≤ l.length := by
  unfold wo_cnt
  exact Nat.le_trans (List.length_filter_le _ _) (by rw [List.length_take]; omega)
def wo_fst (S w r h : Nat) : Option Nat := (wo_cls S r).find? (wo_isb S w r h)
def wo_best (S w r h : Nat) : Int := match wo_fst S w r h with
  | some c => (c : Int)
  | none => -1
def wo_next (S w r h : Nat) : Nat := match wo_fst S w r h with
  | some c => sp_bh S w h c
  | none => h
theorem wo_find_t {p : Nat → Bool} : ∀ (l : List Nat) (i : Nat), i < l.length → (∀ j, j < i → p (l.getD j 0) = false) → p (l.getD i 0) = true → l.find? p = some (l.getD i 0)
  | [], i, h, _, _ => absurd h (Nat.not_lt_zero _)
  | a :: l, 0, _, _, h2 => by
    have h3 : p a = true := h2
    rw [List.find?_cons_of_pos h3]
    rfl
  | a :: l, i + 1, h, h1, h2 => by
    have h3 : p a = false := h1 0 (Nat.succ_pos _)
    rw [List.find?_cons_of_neg (by rw [h3]; exact Bool.false_ne_true)]
    exact wo_find_t l i (by simpa using h) (fun j hj => h1 (j + 1) (by omega)) h2
theorem wo_find_f {p : Nat → Bool} {l : List Nat} (h : ∀ j, j < l.length → p (l.getD j 0) = false) : l.find? p = none := by
  rw [List.find?_eq_none]
  intro x hx
  obtain ⟨i, hi, rfl⟩ := List.mem_iff_getElem.mp hx
  have := h i hi
  rw [List.getD_eq_getElem?_getD, List.getElem?_eq_getElem hi] at this
  simpa using this
theorem wo_best_t {S w r h i : Nat} (hi : i < (wo_cls S r).length) (h1 : ∀ j, j < i → wo_isb S w r h ((wo_cls S r).getD j 0) = false) (h2 : wo_gain S w (wo S w r) h ((wo_cls S r).getD i 0) = wo S w r h) : wo_best S w r h = ((wo_cls S r).getD i 0 : Nat) := by
  unfold wo_best wo_fst
  rw [wo_find_t _ i hi h1 (decide_eq_true h2)]
theorem wo_best_f {S w r h : Nat} (h1 : ∀ j, j < (wo_cls S r).length → wo_isb S w r h ((wo_cls S r).getD j 0) = false) : wo_best S w r h = -1 := by
  unfold wo_best wo_fst
  rw [wo_find_f h1]
theorem wo_best_or {S w r h : Nat} (hS : 2 ≤ S ∧ S ≤ 6) (hr : 1 ≤ r ∧ r ≤ 3) (hh : h < 4 ^ S) : (wo_best S w r h = -1 ∧ wo_next S w r h = h) ∨ ∃ c, c ∈ wo_cls S r ∧ wo_best S w r h = (c : Int) ∧ wo_next S w r h = sp_bh S w h c ∧ ¬ sp_cc h c = h ∧ wo_gain S w (wo S w r) h c = wo S w r h := by
  unfold wo_best wo_next
  cases e : wo_fst S w r h with
  | none => exact Or.inl ⟨rfl, rfl⟩
  | some c =>
    have e2 : (wo_cls S r).find? (wo_isb S w r h) = some c := e
    have h0 : wo_isb S w r h c = true := List.find?_some e2
    have h1 : wo_gain S w (wo S w r) h c = wo S w r h := of_decide_eq_true h0
    refine Or.inr ⟨c, List.mem_of_find?_eq_some e2, rfl, rfl, fun q => ?_, h1⟩
    unfold wo_gain at h1
    rw [if_pos q] at h1
    have := wo_6 (w := w) hS hr hh
    omega
/-- a row of clips, behind it noughts -/
def wo_lf (l : List Nat) : Nat → Int32 := fun i => zI ((l.getD i 0 : Nat) : Int)
theorem wo_lf_push (l : List Nat) (c : Nat) : upd (wo_lf l) l.length (zI (c : Int)) = wo_lf (l ++ [c]) := by
  funext i
  unfold upd wo_lf
  by_cases q : i = l.length
  · subst q
    rw [if_pos rfl, List.getD_eq_getElem?_getD, List.getElem?_append_right (Nat.le_refl _), Nat.sub_self]
    rfl
  · rw [if_neg q, List.getD_eq_getElem?_getD, List.getD_eq_getElem?_getD]
    rcases Nat.lt_or_ge i l.length with g | g
    · rw [List.getElem?_append_left g]
    · rw [List.getElem?_append_right g, List.getElem?_eq_none g, List.getElem?_eq_none (by simp; omega)]
def wo_three (S a d : Nat) : List Nat := if a + d < S then [100 * a + 10 * (a + d) + 1, 100 * a + 10 * (a + d) + 2, 100 * a + 10 * (a + d) + 3] else []
def wo_ds (S a d : Nat) : List Nat := (List.range d).flatMap fun d => wo_three S a d
def wo_as (S r a : Nat) : List Nat := (List.range a).flatMap fun a => wo_ds S a r
theorem wo_as_S (S r : Nat) : wo_as S r S = wo_cls S r := rfl
theorem wo_as_step (S r a : Nat) : wo_as S r (a + 1) = wo_as S r a ++ wo_ds S a r := by
  unfold wo_as
  rw [List.range_succ, List.flatMap_append]
  simp
theorem wo_ds_step (S a d : Nat) : wo_ds S a (d + 1) = wo_ds S a d ++ wo_three S a d := by
  unfold wo_ds
  rw [List.range_succ, List.flatMap_append]
  simp
theorem wo_ds_end (S a : Nat) : ∀ k d, S ≤ a + d → wo_ds S a (d + k) = wo_ds S a d
  | 0, d, _ => rfl
  | k + 1, d, h => by
    rw [← Nat.add_assoc, wo_ds_step, wo_ds_end S a k d h, wo_three, if_neg (by omega), List.append_nil]
theorem wo_room : ∀ S : Nat, S < 7 → ∀ r, r < 4 → ∀ a, a < S → ∀ d, d < r → (wo_as S r a).length + (wo_ds S a d).length + 3 ≤ 45 ∨ S ≤ a + d := by
  have h : ∀ S : Nat, S < 7 → ((List.range 4).all fun r => (List.range S).all fun a => (List.range r).all fun d => decide ((wo_as S r a).length + (wo_ds S a d).length + 3 ≤ 45) || decide (S ≤ a + d)) = true := sp_all (by decide +kernel)
  intro S hS r hr a ha d hd
  have h1 := List.all_eq_true.mp (List.all_eq_true.mp (List.all_eq_true.mp (h S hS) r (List.mem_range.mpr hr)) a (List.mem_range.mpr ha)) d (List.mem_range.mpr hd)
  simpa using h1
