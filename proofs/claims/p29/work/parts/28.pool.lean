/-! pools: for each place of a row, the cells of what stands there -/
def pl_all (n : Nat) (F : Nat → va_W) : va_W := (List.range n).flatMap F
def pl_but (n j : Nat) (F : Nat → va_W) : va_W := ((List.range n).erase j).flatMap F
theorem pl_fm {F F' : Nat → va_W} : ∀ (l : List Nat), (∀ i ∈ l, F' i = F i) → l.flatMap F' = l.flatMap F
  | [], _ => rfl
  | a :: l, h => by
    rw [List.flatMap_cons, List.flatMap_cons, h a List.mem_cons_self, pl_fm l (fun i hi => h i (List.mem_cons_of_mem _ hi))]
theorem pl_out {n j : Nat} {F : Nat → va_W} (hj : j < n) : (pl_all n F).Perm (F j ++ pl_but n j F) := by
  have h := List.Perm.flatMap_right F (List.perm_cons_erase (List.mem_range.mpr hj))
  rw [List.flatMap_cons] at h
  exact h
theorem pl_cong {n j : Nat} {F F' : Nat → va_W} (h : ∀ i, i < n → i ≠ j → F' i = F i) : pl_but n j F' = pl_but n j F :=
  pl_fm _ fun i hi => by
    have h1 := (List.Nodup.mem_erase_iff List.nodup_range).mp hi
    exact h i (List.mem_range.mp h1.2) h1.1
theorem pl_outL {n j : Nat} {F : Nat → va_W} (X Y : va_W) (hj : j < n) (hF : F j = Y) : (X ++ pl_all n F).Perm ((X ++ Y) ++ pl_but n j F) := by
  rw [List.append_assoc, ← hF]
  exact List.Perm.append_left X (pl_out hj)
theorem pl_inL {n j : Nat} {F F' : Nat → va_W} (X Y : va_W) (hj : j < n) (hF : F' j = Y) (h : ∀ i, i < n → i ≠ j → F' i = F i) : ((X ++ Y) ++ pl_but n j F).Perm (X ++ pl_all n F') := by
  rw [← pl_cong h]
  exact (pl_outL X Y hj hF).symm
theorem pl_ret {a b : va_W} (h : a.Perm b) : a.Perm (b ++ []) := by rw [List.append_nil]; exact h
theorem hv_tl (X T : va_W) (c : Nat × va_E) : ((X ++ T) ++ [c]).Perm ((X ++ [c]) ++ T) := by
  rw [List.append_assoc, List.append_assoc]
  exact List.Perm.append_left X List.perm_append_comm
/-! memories: which places are taken, by which objects, what they hold -/
def mo_f (al : Nat → Bool) (ga : Nat → Nat × Nat × Nat) : Nat → Option Nat := fun j => if al j = true then some (ga j).1 else none
def mo_F (al : Nat → Bool) (ga : Nat → Nat × Nat × Nat) (ct : Nat → Nat → Int) : Nat → va_W := fun j => if al j = true then G3 (ga j).1 (ga j).2.1 (ga j).2.2 (ct j) else []
def mo_al (al : Nat → Bool) (j : Nat) : Nat → Bool := fun i => if i = j then true else al i
def mo_ct (ct : Nat → Nat → Int) (j : Nat) (g : Nat → Int) : Nat → Nat → Int := fun i => if i = j then g else ct i
def mo_ga (ga : Nat → Nat × Nat × Nat) (j : Nat) (a : Nat × Nat × Nat) : Nat → Nat × Nat × Nat := fun i => if i = j then a else ga i
theorem mo_f_old {al : Nat → Bool} {ga : Nat → Nat × Nat × Nat} {j : Nat} (h : al j = true) : mo_f al ga = mo_f (mo_al al j) ga := by
  funext i
  unfold mo_f mo_al
  by_cases q : i = j
  · subst q
    rw [if_pos h, if_pos (if_pos rfl)]
  · rw [if_neg (c := i = j) q]
theorem mo_f_new (al : Nat → Bool) (ga : Nat → Nat × Nat × Nat) (j : Nat) (a : Nat × Nat × Nat) : va_up (mo_f al ga) j (some a.1) = mo_f (mo_al al j) (mo_ga ga j a) := by
  funext i
  unfold mo_f mo_al mo_ga va_up
  by_cases q : i = j
  · rw [if_pos q, if_pos (if_pos q), if_pos q]
  · rw [if_neg q, if_neg (c := i = j) q, if_neg (c := i = j) q]
theorem mo_F_here {al : Nat → Bool} {ga : Nat → Nat × Nat × Nat} {ct : Nat → Nat → Int} {j : Nat} {g : Nat → Int} : mo_F (mo_al al j) ga (mo_ct ct j g) j = G3 (ga j).1 (ga j).2.1 (ga j).2.2 g := by
  unfold mo_F mo_al mo_ct
  rw [if_pos (if_pos rfl), if_pos rfl]
theorem mo_F_there {al : Nat → Bool} {ga ga' : Nat → Nat × Nat × Nat} {ct : Nat → Nat → Int} {j : Nat} {g : Nat → Int} (hg : ∀ i, i ≠ j → ga' i = ga i) {n : Nat} : ∀ i, i < n → i ≠ j → mo_F (mo_al al j) ga' (mo_ct ct j g) i = mo_F al ga ct i := by
  intro i _ q
  unfold mo_F mo_al mo_ct
  rw [if_neg (c := i = j) q, if_neg (c := i = j) q, hg i q]
theorem mo_ga_here (ga : Nat → Nat × Nat × Nat) (j : Nat) (a : Nat × Nat × Nat) : mo_ga ga j a j = a := if_pos rfl
theorem mo_ga_there (ga : Nat → Nat × Nat × Nat) (j : Nat) (a : Nat × Nat × Nat) : ∀ i, i ≠ j → mo_ga ga j a i = ga i := fun i q => if_neg q
