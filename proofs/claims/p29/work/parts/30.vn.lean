/-! a call of a private method of a nest mate -/
section HVC
variable {p : Program} {l : Launch} {e : Env} {R : Room} {s : State} {m : MethodId} {args : Array Value} {below : List Frame} {meth : Method} {c : Code} {Q : State → Prop} {cc : ByteArray} {nL : Nat} {D : va_G} {dA : Nat → ClassId} {A : Nat → Prop} {H0 : Heap} {own : String} {Ts : List Cond} {ce sl : Nat} {ws : va_W} {lv : List (Nat × Value)} {st : List Value} {pc : Nat}
variable {y : MethodName} {bytes : ByteArray} {maxL index n mc ms d : Nat} {ret : Option FieldType} {wd : List Cond} {Cn : String} {b : Nat} {As rest : List Value} {wc wr : va_W} {S : Type} {rv : S → Option Value} {post : S → Prop} {w1 : S → va_W}
theorem hv_callVN {host : String} (C : hv_C p s m args c cc nL D dA A H0 own Ts) (hM : hv_Ct l y wd d D dA (.ref b :: As) wc mc ms rv post w1) (cw : va_CN R s args own index y host bytes maxL ret wd (hv_rm d mc ms) mc ms n ∧ (Cond.instanceMethod y).before args s = true ∧ (Cond.selects Cn y y).before args s = true) (hs : ws.Perm (wc ++ wr)) (hn : As.length = n)
    (q0 ci : Nat) {fs : List Value} {T : u_T} {N : Nat} (hq : wc[q0]? = some (b, .inr (ci, fs))) (hc : vwCl[ci]? = some (Cn, T, N)) (hst : st = As.reverse ++ .ref b :: rest) (hroom : (rest.map fun v => v.category).sum ≤ 8)
    (hdg : decode cc pc = .ok (.invokevirtual index, 3)) (hf : ce + mc ≤ R.cells ∧ sl + ms ≤ R.slots)
    (K : ∀ u : S, post u → hv_V p l e R s m args below meth c nL D A H0 Q (ce + mc) (sl + ms) (w1 u ++ wr) lv ((rv u).toList ++ rest) (pc + 3)) :
    hv_V p l e R s m args below meth c nL D A H0 Q ce sl ws lv st pc := by
  refine hv_after (a := (Value.ref b :: As).toArray) C hs (fun H locs la hP hD hS hl => ?_) K
  have hPc := hv_Pl (hv_Pp hs hP)
  exact va_runVN (As := As) (rest := rest) C.1 (hM H.size) cw ⟨hv_blind, va_recv C.2.1 hPc (ci := ci) (q0 := q0) hc hq, fun U hU hW => ⟨rfl, by rw [hU], by rw [hU]; exact hPc, va_K.moved hW.alike C.2.1, (hv_Dl (hv_Dp hs hD)).weaken (fun _ _ _ _ => trivial), C.2.2.2.warm hW⟩⟩ rfl hn hl.1 hst (lv_room hroom) hdg hf
end HVC
