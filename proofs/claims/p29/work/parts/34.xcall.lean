/-! a static method that may throw, called -/
section HXS
variable {p : Program} {l : Launch} {e : Env} {R : Room} {s : State} {m : MethodId} {args : Array Value} {below : List Frame} {meth : Method} {c : Code} {cc : ByteArray} {nL : Nat} {D : va_G} {dA : Nat → ClassId} {A : Nat → Prop} {own : String} {Ts : List Cond} {ce sl : Nat} {ws : va_W} {lv : List (Nat × Value)} {st : List Value} {pc : Nat} {sa : Nat → Nat}
variable {y : MethodName} {bytes : ByteArray} {maxL index n mc ms d : Nat} {ret : Option FieldType} {wd : List Cond} {As rest : List Value} {wc wr : va_W} {S : Type} {rv : S → Option Value} {post : S → Prop} {w1 : S → va_W} {PX : String → Prop}
theorem hx_callS {y0 : MethodName} {ws0 junk : va_W} {PX0 : String → Prop} {Qc : Array Value → State → Outcome → State → Prop} {mc0 ms0 : Nat} (C : hv_C p s m args c cc nL D dA A s.heap own Ts) (X : hx_C l s c A sa) (M : meth.sig.returnType = ret ∧ meth.locks = false ∧ meth.name = y0.name) (hM : hx_Ct l y wd d D dA sa As wc mc ms rv post w1 PX) {ret1 : Option FieldType} (cw : CallB R s args own index y bytes maxL ret1 wd (hv_rm d mc ms) mc ms n ∧ (Cond.static y).before args s = true) (hs : ws.Perm (wc ++ wr)) (hn : As.length = n)
    (hst : st = As.reverse ++ rest) (hroom : (rest.map fun v => v.category).sum ≤ 8)
    (hdg : decode cc pc = .ok (.invokestatic index, 3)) (hf : ce + mc ≤ R.cells ∧ sl + ms ≤ R.slots) (hws : ws.Perm (ws0 ++ junk)) (hX : ∀ E, PX E → PX0 E) (hc0 : ce + mc ≤ mc0) (hs0 : sl + ms ≤ ms0)
    (K : ∀ u : S, post u → hv_V p l e R s m args below meth c nL D A s.heap (vx_MQ below Qc (hx_X D ws0 PX0 A) args s mc0 ms0 A) (ce + mc) (sl + ms) (w1 u ++ wr) lv ((rv u).toList ++ rest) (pc + 3)) :
    hv_V p l e R s m args below meth c nL D A s.heap (vx_MQ below Qc (hx_X D ws0 PX0 A) args s mc0 ms0 A) ce sl ws lv st pc := by
  intro H locs la hP hD hS hl
  have hPc := hv_Pl (hv_Pp hs hP)
  have hF : ∀ q, va_A wc H.size q → A q := by
    intro q h
    rcases h with ⟨k, e, h⟩ | h
    · exact (hv_Dm.mp (hv_Dp hs hD)).2 (q, e) (List.mem_append_left _ (List.mem_of_getElem? h))
    · exact C.2.2.1 q (Nat.le_trans hS.1 h)
  have hZ : ∀ U : State, U.heap = H → s.WarmedH U.vm → hx_Z (va_A wc H.size) U U.heap := fun U hU hW => by
    have hk : ∀ a : Nat, a < s.heap.size → ¬ A a → H[a]? = s.heap[a]? := fun a h1 h2 => hS.2.1 a h1 h2
    rw [hU]
    exact ⟨vx_Zq.moved hW.alike ((vx_Zq.kept X.2.2.1.1 hk).narrow hF), vx_Zq.moved hW.alike ((vx_Zq.kept X.2.2.1.2 hk).narrow hF)⟩
  intro T1 hT X1
  have hr : vx_Run p l e R s m args below meth c H locs ce sl mc ms (F0 m pc la st) rest (hv_Q D rv post w1 (va_A wc H.size) As.toArray) (hx_X D wc PX (va_A wc H.size)) (va_A wc H.size) := vx_runS (As := As) (rest := rest) C.1 (hM H.size) cw ⟨hx_blind, fun U hU hW => ⟨rfl, ⟨by rw [hU], by rw [hU]; exact hPc, va_K.moved hW.alike C.2.1, (hv_Dl (hv_Dp hs hD)).weaken (fun _ _ _ _ => trivial), C.2.2.2.warm hW⟩, X.2.1.warm hW, hZ U hU hW⟩⟩ rfl hn hl.1 hst (lv_room hroom) hdg hf
  rcases hr T1 hT X1 with ⟨v, st₀, t, T', L, h0, X', hL, e1, e2, ⟨⟨u, hv, hp, hP1, hD1⟩, hF2⟩, stp⟩ | ⟨q, st₀, t, T', L, E, ce9, h0, X', hL, e1, e2, ⟨u, hp, hb, hF2⟩, hce, hcv, hcl, stp⟩
  · cases hv
    obtain ⟨k1, k2, k3⟩ := vx_keep h0 e1 hS (fun q _ h => hF q h) hF hL hF2
    obtain ⟨hP2, hD2⟩ := hv_join hs hP hD (fun q h1 h2 => k2 q h1 h2) hF (by rw [e1]; exact hP1) hD1
    obtain ⟨t2, a1, b1⟩ := K u hp T'.heap (locs ++ L) la hP2 hD2 k3 hl T' rfl X'
    exact ⟨t2, stp t2 a1, b1⟩
  · obtain ⟨k1, k2, k3⟩ := vx_keep h0 e1 hS (fun q _ h => hF q h) hF hL hF2
    obtain ⟨hPX, hP1, hD1⟩ := hb
    obtain ⟨hP2, hD2⟩ := hv_join hs hP hD (fun q h1 h2 => k2 q h1 h2) hF (by rw [e1]; exact hP1) hD1
    have hP3 := hv_Pl (hv_Pp (hs.symm.trans hws) hP2)
    have hD3 := hv_Dl (hv_Dp (hs.symm.trans hws) hD2)
    obtain ⟨t2, a1, b1⟩ := vx_out (pc := pc) (ls := la) (rest := rest) (fun x hx => (X.2.2.2 x hx).elim) M.2.1 (by rw [e1]; exact hce) hcv hcl (XC := hx_X D ws0 PX0 A) (Qc := Qc) (fun t3 ht3 _ => ⟨(), trivial, ⟨hX E hPX, by rw [ht3]; exact hP3, hD3⟩, k3.F ht3⟩) k3.2.2 hc0 hs0 T' rfl X'
    exact ⟨t2, stp.trans a1, b1⟩
end HXS
