/-! frames of contracts; methods that call what catches -/
section FR
variable {l : Launch} {D : va_G} {dA : Nat → ClassId} {sa : Nat → Nat} {y : MethodName} {mc ms d maxL : Nat} {ret : Option FieldType} {wd : List Cond} {wc wr ws : va_W} {S : Type} {rv : S → Option Value} {post : S → Prop} {w1 w2 : S → va_W}
theorem va_A_sub {sz : Nat} (hs : ws.Perm (wc ++ wr)) : ∀ q, va_A wc sz q → va_A ws sz q := by
  intro q h
  rcases h with ⟨k, e, h⟩ | h
  · obtain ⟨k2, h2⟩ := List.mem_iff_getElem?.mp (hs.symm.subset (List.mem_append_left _ (List.mem_of_getElem? h)))
    exact Or.inl ⟨k2, e, h2⟩
  · exact Or.inr h
theorem hv_frame {av : List Value} (hM : hv_Ct l y wd d D dA av wc mc ms rv post w1) (hs : ws.Perm (wc ++ wr)) (h2 : ∀ u, post u → (w1 u ++ wr).Perm (w2 u)) : hv_Ct l y wd d D dA av ws mc ms rv post w2 := by
  intro sz
  refine MetFree.mono (hM sz) (fun a s h => ?_) (fun _ _ _ _ _ h => h) (fun a s o t h q => ?_)
  · obtain ⟨q0, q1, qP, qK, qD, qN⟩ := h
    exact ⟨q0, q1, hv_Pl (hv_Pp hs qP), qK, hv_Dl (hv_Dp hs qD), qN⟩
  · obtain ⟨q0, q1, qP, qK, qD, qN⟩ := h
    obtain ⟨⟨⟨u, e, hp, hP1, hD1⟩, hF1⟩, L, hL, hfr⟩ := q
    subst q1
    obtain ⟨hP2, hD2⟩ := hv_join (A := va_A ws s.heap.size) hs qP qD.self (fun x h1 h3 => hF1.2 x h1 h3) (va_A_sub hs) hP1 hD1
    exact ⟨⟨⟨u, e, hp, hv_Pp (h2 u hp) hP2, hv_Dp (h2 u hp) hD2⟩, hF1.1, fun x h1 h3 => hF1.2 x h1 (fun z => h3 (va_A_sub hs x z))⟩, L, hL, fun x hx => va_A_sub hs _ (hfr x hx)⟩
theorem hz_of {own : String} {cc : ByteArray} {ws' : List Cond} {av : List Value} (ho : y.cls = own) (hy : plainName y.cls = true) (hw : wd = Cond.code y cc maxL ret :: ws') (ha : (lg_sl av).length ≤ maxL)
    (body : ∀ (p : Program) (e : Env) (s : State) (m : MethodId) (args : Array Value) (below : List Frame) (meth : Method) (c : Code), hv_C p s m args c cc maxL D dA (va_A ws s.heap.size) s.heap own wd → hy_X s (va_A ws s.heap.size) sa → (meth.sig.returnType = ret ∧ meth.locks = false ∧ meth.name = y.name) →
      hv_V p l e (hv_rm d mc ms) s m args below meth c maxL D (va_A ws s.heap.size) s.heap (MQ below (hv_Q D rv post w1 (va_A ws s.heap.size)) args s mc ms (va_A ws s.heap.size)) 0 0 ws (lv_args 0 av) [] 0) : hy_Ct l y wd d D dA sa av ws mc ms rv post w1 := by
  intro sz
  refine Met.ofW (cc := cc) (maxL := maxL) (ret := ret) hy hw ?_
  intro p e s m args below meth c s₁ B hml hv
  obtain ⟨rfl, ⟨rfl, hP, hK, hD0, hN⟩, hX, hZ⟩ := hv
  have hts := atoms_spec (ws := wd) B.pre
  have hown : s.vm.findClass own = some m.cls := ho ▸ findClass_of_methodNamed B.named
  have hl := lv_entry av (n := maxL) ha
  rw [lg_entry_eq]
  exact body p e s m av.toArray below meth c ⟨⟨B.exec, B.bytes, hml, hown, hts⟩, hK, fun q h => Or.inr h, hN⟩ ⟨hX, hZ⟩ ⟨B.returns, B.notSynchronized, (name_of_methodNamed B.named B.method).1⟩ s.heap [] _ hP hD0.self va_S.rf hl
end FR
section HZ
variable {p : Program} {l : Launch} {e : Env} {R : Room} {s : State} {m : MethodId} {args : Array Value} {below : List Frame} {meth : Method} {c : Code} {Q : State → Prop} {cc : ByteArray} {nL : Nat} {D : va_G} {dA : Nat → ClassId} {A : Nat → Prop} {own : String} {Ts : List Cond} {ce sl : Nat} {ws : va_W} {lv : List (Nat × Value)} {st : List Value} {pc : Nat} {sa : Nat → Nat}
variable {y : MethodName} {bytes : ByteArray} {maxL index n mc ms d : Nat} {ret : Option FieldType} {wd : List Cond} {As rest : List Value} {wc wr : va_W} {S : Type} {rv : S → Option Value} {post : S → Prop} {w1 : S → va_W}
theorem hz_callS (C : hv_C p s m args c cc nL D dA A s.heap own Ts) (X : hy_X s A sa) (hM : hy_Ct l y wd d D dA sa As wc mc ms rv post w1) (cw : CallB R s args own index y bytes maxL ret wd (hv_rm d mc ms) mc ms n ∧ (Cond.static y).before args s = true) (hs : ws.Perm (wc ++ wr)) (hn : As.length = n)
    (hst : st = As.reverse ++ rest) (hroom : (rest.map fun v => v.category).sum ≤ 8)
    (hdg : decode cc pc = .ok (.invokestatic index, 3)) (hf : ce + mc ≤ R.cells ∧ sl + ms ≤ R.slots)
    (K : ∀ u : S, post u → hv_V p l e R s m args below meth c nL D A s.heap Q (ce + mc) (sl + ms) (w1 u ++ wr) lv ((rv u).toList ++ rest) (pc + 3)) :
    hv_V p l e R s m args below meth c nL D A s.heap Q ce sl ws lv st pc := by
  refine hv_after (a := As.toArray) C hs (fun H locs la hP hD hS hl => ?_) K
  have hPc := hv_Pl (hv_Pp hs hP)
  have hF : ∀ q, va_A wc H.size q → A q := by
    intro q h
    rcases h with ⟨k, e, h⟩ | h
    · exact (hv_Dm.mp (hv_Dp hs hD)).2 (q, e) (List.mem_append_left _ (List.mem_of_getElem? h))
    · exact C.2.2.1 q (Nat.le_trans hS.1 h)
  have hZ : ∀ U : State, U.heap = H → s.WarmedH U.vm → hx_Z (va_A wc H.size) U U.heap := fun U hU hW => by
    have hk : ∀ a : Nat, a < s.heap.size → ¬ A a → H[a]? = s.heap[a]? := fun a h1 h2 => hS.2.1 a h1 h2
    rw [hU]
    exact ⟨vx_Zq.moved hW.alike ((vx_Zq.kept X.2.1 hk).narrow hF), vx_Zq.moved hW.alike ((vx_Zq.kept X.2.2 hk).narrow hF)⟩
  exact va_runS (As := As) (rest := rest) C.1 (hM H.size) cw ⟨hx_blind, fun U hU hW => ⟨rfl, ⟨by rw [hU], by rw [hU]; exact hPc, va_K.moved hW.alike C.2.1, (hv_Dl (hv_Dp hs hD)).weaken (fun _ _ _ _ => trivial), C.2.2.2.warm hW⟩, X.1.warm hW, hZ U hU hW⟩⟩ rfl hn hl.1 hst (lv_room hroom) hdg hf
end HZ
