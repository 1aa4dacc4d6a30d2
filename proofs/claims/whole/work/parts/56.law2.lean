/-! orders of a world, by places -/
theorem hv_ix {α : Type} {A A' : List α} (is : List Nat) (n : Nat) (hl : A.length = n) (h : is.map (fun i => A[i]?) = A'.map some) (hp : is.Perm (List.range n)) : A.Perm A' := by
  have h1 : (List.range n).map (fun i => A[i]?) = A.map some := by
    subst hl
    refine List.ext_getElem (by simp) (fun i h1 h2 => ?_)
    simp
  have h2 := hp.map (fun i => A[i]?)
  rw [h, h1] at h2
  have h3 := h2.filterMap id
  simp at h3
  exact h3.symm
theorem hv_poolP {X A B P : va_W} {Ps Q : List va_W} (e1 : X.Perm (A ++ B)) (k : Nat) (h2 : Ps[k]? = some P) (h3 : Ps.eraseIdx k = Q) : (X ++ Ps.flatten).Perm ((A ++ P) ++ (B ++ Q.flatten)) := by
  refine (e1.append (hv_flat k h2 h3)).trans ?_
  rw [List.append_assoc, List.append_assoc]
  refine List.Perm.append_left A ?_
  rw [← List.append_assoc, ← List.append_assoc]
  exact List.Perm.append_right _ List.perm_append_comm
theorem hv_pmP {X A B T : va_W} (e1 : X.Perm (A ++ B)) : (X ++ T).Perm (A ++ (B ++ T)) := by
  rw [← List.append_assoc]
  exact e1.append_right T
