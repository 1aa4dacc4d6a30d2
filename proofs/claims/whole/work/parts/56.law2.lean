/-! orders of a world, by places -/
theorem hv_ix {α : Type} {A A' : List α} (is : List Nat) (n : Nat) (hl : A.length = n) (h : is.map (fun i => A[i]?) = A'.map some) (hp : is.Perm (List.range n)) : A.Perm A' := by
  have h1 : (List.range n).map (fun i => A[i]?) = A.map some := by
    subst hl
    refine List.ext_getElem (by simp) (fun i h1 h2 => ?_)
    simp
  have h2 := hp.map (fun i => A[i]?)
  rw [h, h1] at h2
  have h3 := h2.filterMap id
  simp at h3
  exact h3.symm
theorem hv_poolP {X A B P : va_W} {Ps Q : List va_W} (e1 : X.Perm (A ++ B)) (k : Nat) (h2 : Ps[k]? = some P) (h3 : Ps.eraseIdx k = Q) : (X ++ Ps.flatten).Perm ((A ++ P) ++ (B ++ Q.flatten)) := by
  refine (e1.append (hv_flat k h2 h3)).trans ?_
  rw [List.append_assoc, List.append_assoc]
  refine List.Perm.append_left A ?_
  rw [← List.append_assoc, ← List.append_assoc]
  exact List.Perm.append_right _ List.perm_append_comm
theorem hv_pmP {X A B T : va_W} (e1 : X.Perm (A ++ B)) : (X ++ T).Perm (A ++ (B ++ T)) := by
  rw [← List.append_assoc]
  exact e1.append_right T
theorem hv_unpoolC {x : Nat × va_E} {A B P : va_W} {Ps Q : List va_W} (k : Nat) (h2 : Ps[k]? = some P) (h3 : Ps.eraseIdx k = Q) : ((x :: (A ++ P)) ++ (B ++ Q.flatten)).Perm ((x :: (A ++ B)) ++ Ps.flatten) :=
  hv_unpool (A := x :: A) (B := B) (P := P) k h2 h3
section HY2
variable {p : Program} {l : Launch} {e : Env} {R : Room} {s : State} {m : MethodId} {args : Array Value} {below : List Frame} {meth : Method} {c : Code} {Q : State → Prop} {cc : ByteArray} {nL : Nat} {D : va_G} {dA : Nat → ClassId} {A : Nat → Prop} {own : String} {Ts : List Cond} {ce sl : Nat} {ws : va_W} {lv : List (Nat × Value)} {st : List Value} {pc : Nat} {sa : Nat → Nat} {hh : List (Nat × Nat × Nat × Nat)}
variable {y : MethodName} {bytes : ByteArray} {maxL index n mc ms d : Nat} {ret : Option FieldType} {wd : List Cond} {As rest : List Value} {wc wr : va_W} {S : Type} {r1 : S → Option Value} {r2 : String → Option Value} {post : S → Prop} {PX : String → Prop} {v1 : S → va_W} {v2 : String → va_W}
theorem hy_callS2 (C : hv_C p s m args c cc nL D dA A s.heap own Ts) (X : hy_X s A sa) (hM : hy_Ct l y wd d D dA sa As wc mc ms (S := S ⊕ String) (Sum.elim r1 r2) (Sum.elim post PX) (Sum.elim v1 v2)) (cw : vx_CSW R s args own index y bytes maxL ret hh wd (hv_rm d mc ms) mc ms n) (hs : ws.Perm (wc ++ wr)) (hn : As.length = n)
    (hst : st = As.reverse ++ rest) (hroom : (rest.map fun v => v.category).sum ≤ 8)
    (hdg : decode cc pc = .ok (.invokestatic index, 3)) (hf : ce + mc ≤ R.cells ∧ sl + ms ≤ R.slots)
    (K1 : ∀ u : S, post u → hv_V p l e R s m args below meth c nL D A s.heap Q (ce + mc) (sl + ms) (v1 u ++ wr) lv ((r1 u).toList ++ rest) (pc + 3))
    (K2 : ∀ E : String, PX E → hv_V p l e R s m args below meth c nL D A s.heap Q (ce + mc) (sl + ms) (v2 E ++ wr) lv ((r2 E).toList ++ rest) (pc + 3)) :
    hv_V p l e R s m args below meth c nL D A s.heap Q ce sl ws lv st pc :=
  hy_callS C X hM cw hs hn hst hroom hdg hf (fun u hu => by
    cases u with
    | inl u => exact K1 u hu
    | inr E => exact K2 E hu)
end HY2
section HY3
variable {p : Program} {l : Launch} {e : Env} {R : Room} {s : State} {m : MethodId} {args : Array Value} {below : List Frame} {meth : Method} {c : Code} {Q : State → Prop} {nL : Nat} {D : va_G} {A : Nat → Prop} {H0 : Heap} {ce sl : Nat} {ws : va_W} {lv : List (Nat × Value)} {st : List Value} {pc : Nat}
/-- cells that are needed no more -/
theorem hv_drop {ws' junk : va_W} (h : ws.Perm (ws' ++ junk)) (K : hv_V p l e R s m args below meth c nL D A H0 Q ce sl ws' lv st pc) : hv_V p l e R s m args below meth c nL D A H0 Q ce sl ws lv st pc :=
  fun H locs la hP hD hS hl => K H locs la (hv_Pl (hv_Pp h hP)) (hv_Dl (hv_Dp h hD)) hS hl
theorem lw_drop {X P1 P2 P3 : va_W} : (X ++ [P1, P2, P3].flatten).Perm ((X ++ [P1, [], P3].flatten) ++ P2) := by
  simp only [List.flatten_cons, List.flatten_nil, List.append_nil, List.nil_append]
  rw [List.append_assoc, List.append_assoc]
  refine List.Perm.append_left X (List.Perm.append_left P1 ?_)
  exact List.perm_append_comm
theorem lw_pz2 (sal : Nat → Bool) (sga : Nat → Nat × Nat × Nat) (sct : Nat → Nat → Int) : pl_all 2 (mo_F (ld_s sal) sga sct) = [] := by
  unfold pl_all mo_F
  show (if ld_s sal 0 = true then _ else []) ++ ((if ld_s sal 1 = true then _ else []) ++ []) = []
  rw [if_neg (lw_lds (by decide)), if_neg (lw_lds (by decide))]
  rfl
end HY3
