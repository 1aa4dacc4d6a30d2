/-! methods with handlers: what they catch; calls of such methods -/
def hw_H (y : MethodName) (b : ByteArray) (n : Nat) (r : Option FieldType) (hh : List (Nat × Nat × Nat × Nat)) : List Cond := .codeWith y b n r hh :: hw_T
theorem hw_SH {y : MethodName} {b : ByteArray} {n : Nat} {r : Option FieldType} {own : String} {idx : Nat} {y2 : MethodName} {b2 : ByteArray} {n2 : Nat} {r2 : Option FieldType} {hh : List (Nat × Nat × Nat × Nat)} (h1 : Cond.methodLink own idx y2 ∈ hw_T) (h2 : Cond.static y2 ∈ hw_T) (h4 : Cond.initialized y2.cls ∈ hw_T) (h5 : Cond.codeWith y2 b2 n2 r2 hh ∈ hw_T) : GoodIn (hw_W y b n r) (va_wsS own idx y2 (hw_H y2 b2 n2 r2 hh)) := by
  intro w hw
  rcases List.mem_append.mp hw with g | g
  · simp only [List.mem_cons, List.not_mem_nil, or_false] at g
    rcases g with rfl | rfl | rfl
    · exact hw_g1 h1
    · exact hw_g1 h2
    · exact hw_g1 h4
  · rcases List.mem_cons.mp g with e | e
    · rw [e]; exact hw_g1 h5
    · exact hw_g1 e
def hy_Ct (l : Launch) (y : MethodName) (wd : List Cond) (d : Nat) (D : va_G) (dA : Nat → ClassId) (sa : Nat → Nat) (av : List Value) (ws : va_W) (mc ms : Nat) {S : Type} (rv : S → Option Value) (post : S → Prop) (w1 : S → va_W) : Prop :=
  ∀ sz : Nat, Met l y wd (hv_rm d mc ms) (va_Pc av (hx_P D dA sa ws sz)) (hv_Q D rv post w1 (va_A ws sz)) mc ms (va_A ws sz)
theorem hy_ofWH {l : Launch} {y : MethodName} {ws ws' : List Cond} {rm : Room} {Pc : Array Value → State → Prop} {Qc : Array Value → State → Outcome → State → Prop} {mc ms : Nat} {free : Addr → Prop} {cc : ByteArray} {maxL : Nat} {ret : Option FieldType} {hh : List (Nat × Nat × Nat × Nat)}
    (hy : plainName y.cls = true) (hw : ws = Cond.codeWith y cc maxL ret hh :: ws')
    (body : ∀ p e s m args below meth c s₁, BodyLoose p l y (headSpec ws rm) cc maxL ret e s m args below meth c s₁ → c.maxLocals = maxL → Pc args s →
      W p l e (headSpec ws rm).room s m args below meth c s.heap [] 0 0 (MQ below Qc args s mc ms free) (entryFrame m args maxL)) : Met l y ws rm Pc Qc mc ms free := by
  refine MetFree.of_bodyS (code := cc) (maxLocals := maxL) (ret := ret) hy ?_ ?_
  · intro args s m h hn
    obtain ⟨m9, meth, c, hn9, h1, h2, h3, h4, -, h5, h6, -⟩ := Cond.codeWith_spec (atoms_spec (ws := ws) h _ (by rw [hw]; exact List.mem_cons_self))
    cases hn.symm.trans hn9
    exact ⟨meth, c, h1, h2, h3, h4, h5, h6⟩
  · intro p e s m args below meth c s₁ B hml hP _
    have hh0 : s₁.heap = s.heap := by rw [B.state]; rfl
    obtain ⟨t, a1, o, b1, b2, b3⟩ := body p e s m args below meth c s₁ B hml hP s₁ hh0 (Stand.of_body B)
    exact ⟨t, o, a1, b1, b2, ⟨b3.1, b3.2⟩⟩
/-- what a body with handlers knows -/
def hy_C (l : Launch) (s : State) (c : Code) (A : Nat → Prop) (sa : Nat → Nat) (hh : List (Nat × Nat × Nat × Nat)) : Prop := l.stackTraces = false ∧ hx_N sa s ∧ hx_Z A s s.heap ∧ c.exceptionTable.toList = tableOf hh
section HY
variable {p : Program} {l : Launch} {e : Env} {R : Room} {s : State} {m : MethodId} {args : Array Value} {below : List Frame} {meth : Method} {c : Code} {Q : State → Prop} {cc : ByteArray} {nL : Nat} {D : va_G} {dA : Nat → ClassId} {A : Nat → Prop} {own : String} {Ts : List Cond} {ce sl : Nat} {ws : va_W} {lv : List (Nat × Value)} {st : List Value} {pc : Nat} {sa : Nat → Nat} {hh : List (Nat × Nat × Nat × Nat)}
variable {y : MethodName} {bytes : ByteArray} {maxL index n mc ms d : Nat} {ret : Option FieldType} {wd : List Cond} {Cn : String} {b : Nat} {As rest : List Value} {wc wr : va_W} {S : Type} {rv : S → Option Value} {post : S → Prop} {w1 : S → va_W} {PX : String → Prop}
theorem hy_of {av : List Value} {yw : MethodName} {bw : ByteArray} {nw : Nat} {rw9 : Option FieldType} (hkw : Cond.code yw bw nw rw9 ∈ hw_T) (hst : l.stackTraces = false) (hd : wd = hw_H y cc maxL ret hh) (ho : y.cls = own) (hy : plainName y.cls = true) (ha : (lg_sl av).length ≤ maxL)
    (body : ∀ (p : Program) (e : Env) (s : State) (m : MethodId) (args : Array Value) (below : List Frame) (meth : Method) (c : Code), hv_C p s m args c cc maxL D dA (va_A ws s.heap.size) s.heap own (hw_W yw bw nw rw9) → hy_C l s c (va_A ws s.heap.size) sa hh → (meth.sig.returnType = ret ∧ meth.locks = false ∧ meth.name = y.name) →
      hv_V p l e (hv_rm d mc ms) s m args below meth c maxL D (va_A ws s.heap.size) s.heap (MQ below (hv_Q D rv post w1 (va_A ws s.heap.size)) args s mc ms (va_A ws s.heap.size)) 0 0 ws (lv_args 0 av) [] 0) : hy_Ct l y wd d D dA sa av ws mc ms rv post w1 := by
  subst hd
  intro sz
  refine hy_ofWH (cc := cc) (maxL := maxL) (ret := ret) (hh := hh) hy rfl ?_
  intro p e s m args below meth c s₁ B hml hv
  obtain ⟨rfl, ⟨rfl, hP, hK, hD0, hN⟩, hX, hZ⟩ := hv
  have hts := atoms_spec (ws := hw_H y cc maxL ret hh) B.pre
  have hts2 : ∀ w ∈ hw_W yw bw nw rw9, w.before av.toArray s = true := fun w hw => by
    rcases List.mem_cons.mp hw with e9 | e9
    · rw [e9]; exact hts _ (List.mem_cons_of_mem _ hkw)
    · exact hts _ (List.mem_cons_of_mem _ e9)
  have hown : s.vm.findClass own = some m.cls := ho ▸ findClass_of_methodNamed B.named
  have hl := lv_entry av (n := maxL) ha
  have hT := vx_table (x := y) B (hts _ List.mem_cons_self)
  rw [lg_entry_eq]
  exact body p e s m av.toArray below meth c ⟨⟨B.exec, B.bytes, hml, hown, hts2⟩, hK, fun q h => Or.inr h, hN⟩ ⟨hst, hX, hZ, hT⟩ ⟨B.returns, B.notSynchronized, (name_of_methodNamed B.named B.method).1⟩ s.heap [] _ hP hD0.self va_S.rf hl
/-- thrown at pc, in this frame -/
def hy_T (p : Program) (l : Launch) (e : Env) (R : Room) (s : State) (m : MethodId) (args : Array Value) (below : List Frame) (meth : Method) (c : Code) (nL : Nat) (D : va_G) (A : Nat → Prop) (Q : State → Prop) (ce sl : Nat) (ws : va_W) (lv : List (Nat × Value)) (rest : List Value) (pc : Nat) (E : String) (q9 : Nat) : Prop :=
  ∀ (H1 : Heap) (locs1 : List Loc) (la : Array Slot) (ce9 : Cell), va_P D vwCl ws H1 → va_D A ws → va_S A s.heap H1 locs1 → lv_has la nL lv → H1[q9]? = some ce9 → ce9.vm = .none → s.vm.findClass E = some ce9.cls → vx_W p l e R s m args below meth c H1 locs1 ce sl Q (F0 m pc la rest) q9
theorem hy_callV (C : hv_C p s m args c cc nL D dA A s.heap own Ts) (X : hy_C l s c A sa hh) (hM : hx_Ct l y wd d D dA sa (.ref b :: As) wc mc ms rv post w1 PX) {ret1 : Option FieldType} (cw : CallW R s args own Cn index y bytes maxL ret1 wd (hv_rm d mc ms) mc ms n) (hs : ws.Perm (wc ++ wr)) (hn : As.length = n)
    (q0 ci : Nat) {fs : List Value} {T : u_T} {N : Nat} (hq : wc[q0]? = some (b, .inr (ci, fs))) (hc : vwCl[ci]? = some (Cn, T, N)) (hst : st = As.reverse ++ .ref b :: rest) (hroom : (rest.map fun v => v.category).sum ≤ 8)
    (hdg : decode cc pc = .ok (.invokevirtual index, 3)) (hf : ce + mc ≤ R.cells ∧ sl + ms ≤ R.slots)
    (KX : ∀ (E : String) (q9 : Nat), PX E → hy_T p l e R s m args below meth c nL D A Q (ce + mc) (sl + ms) (wc ++ wr) lv rest pc E q9)
    (K : ∀ u : S, post u → hv_V p l e R s m args below meth c nL D A s.heap Q (ce + mc) (sl + ms) (w1 u ++ wr) lv ((rv u).toList ++ rest) (pc + 3)) :
    hv_V p l e R s m args below meth c nL D A s.heap Q ce sl ws lv st pc := by
  intro H locs la hP hD hS hl
  have hPc := hv_Pl (hv_Pp hs hP)
  have hF : ∀ q, va_A wc H.size q → A q := by
    intro q h
    rcases h with ⟨k, e, h⟩ | h
    · exact (hv_Dm.mp (hv_Dp hs hD)).2 (q, e) (List.mem_append_left _ (List.mem_of_getElem? h))
    · exact C.2.2.1 q (Nat.le_trans hS.1 h)
  have hZ : ∀ U : State, U.heap = H → s.WarmedH U.vm → hx_Z (va_A wc H.size) U U.heap := fun U hU hW => by
    have hk : ∀ a : Nat, a < s.heap.size → ¬ A a → H[a]? = s.heap[a]? := fun a h1 h2 => hS.2.1 a h1 h2
    rw [hU]
    exact ⟨vx_Zq.moved hW.alike ((vx_Zq.kept X.2.2.1.1 hk).narrow hF), vx_Zq.moved hW.alike ((vx_Zq.kept X.2.2.1.2 hk).narrow hF)⟩
  intro T1 hT X1
  have hr : vx_Run p l e R s m args below meth c H locs ce sl mc ms (F0 m pc la st) rest (hv_Q D rv post w1 (va_A wc H.size) (Value.ref b :: As).toArray) (hx_X D wc PX (va_A wc H.size)) (va_A wc H.size) := vx_runV (As := As) (rest := rest) C.1 (hM H.size) cw ⟨hx_blind, va_recv C.2.1 hPc (ci := ci) (q0 := q0) hc hq, fun U hU hW => ⟨rfl, ⟨by rw [hU], by rw [hU]; exact hPc, va_K.moved hW.alike C.2.1, (hv_Dl (hv_Dp hs hD)).weaken (fun _ _ _ _ => trivial), C.2.2.2.warm hW⟩, X.2.1.warm hW, hZ U hU hW⟩⟩ rfl hn hl.1 hst (lv_room hroom) hdg hf
  rcases hr T1 hT X1 with ⟨v, st₀, t, T', L, h0, X', hL, e1, e2, ⟨⟨u, hv, hp, hP1, hD1⟩, hF2⟩, stp⟩ | ⟨q, st₀, t, T', L, E, ce9, h0, X', hL, e1, e2, ⟨u, hp, hb, hF2⟩, hce, hcv, hcl, stp⟩
  · cases hv
    obtain ⟨k1, k2, k3⟩ := vx_keep h0 e1 hS (fun q _ h => hF q h) hF hL hF2
    obtain ⟨hP2, hD2⟩ := hv_join hs hP hD (fun q h1 h2 => k2 q h1 h2) hF (by rw [e1]; exact hP1) hD1
    obtain ⟨t2, a1, b1⟩ := K u hp T'.heap (locs ++ L) la hP2 hD2 k3 hl T' rfl X'
    exact ⟨t2, stp t2 a1, b1⟩
  · obtain ⟨k1, k2, k3⟩ := vx_keep h0 e1 hS (fun q _ h => hF q h) hF hL hF2
    obtain ⟨hPX, hP1, hD1⟩ := hb
    obtain ⟨hP2, hD2⟩ := hv_join hs hP hD (fun q h1 h2 => k2 q h1 h2) hF (by rw [e1]; exact hP1) hD1
    obtain ⟨t2, a1, b1⟩ := KX E q hPX T'.heap (locs ++ L) la ce9 hP2 hD2 k3 hl (by rw [e1]; exact hce) hcv hcl T' rfl X'
    exact ⟨t2, stp.trans a1, b1⟩
/-- caught by the row x; the rows ahead of it name other classes -/
theorem hy_h (C : hv_C p s m args c cc nL D dA A s.heap own Ts) (X : hy_C l s c A sa hh) {E : String} {q9 : Nat} (hE : E ∈ hx_Es) (pre : List ExceptionTableEntry) (x : ExceptionTableEntry) (suf : List ExceptionTableEntry) (hsplit : tableOf hh = pre ++ x :: suf)
    (hpass : ∀ z ∈ pre, ∃ F : String, F ∈ hx_Es ∧ ¬ E = F ∧ z.catchType ≠ 0 ∧ Cond.classLink own z.catchType F ∈ Ts) (hx : covers x pc = true) (h0 : x.catchType ≠ 0) (hlink : Cond.classLink own x.catchType E ∈ Ts)
    (K : hv_V p l e R s m args below meth c nL D A s.heap Q ce sl ws lv [.ref q9] x.handlerPc) : hy_T p l e R s m args below meth c nL D A Q ce sl ws lv rest pc E q9 := by
  intro H1 locs1 la ce9 hP hD hS hl hc hv hcl
  refine vx_catch C.1.2.2.2.1 pre x suf (X.2.2.2.trans hsplit) (fun z hz => ?_) hx h0 (C.1.2.2.2.2 _ hlink) (va_Nw.use rfl (X.2.1.2.1 E hE)) hc hv hcl (K H1 locs1 la hP hD hS hl)
  obtain ⟨F, hF, hne, hz0, hzl⟩ := hpass z hz
  exact Or.inr ⟨hz0, F, C.1.2.2.2.2 _ hzl, X.2.1.2.2.1 E hE F hF hne⟩
/-- what the caller of such methods knows -/
def hy_X (s : State) (A : Nat → Prop) (sa : Nat → Nat) : Prop := hx_N sa s ∧ hx_Z A s s.heap
theorem hy_callS (C : hv_C p s m args c cc nL D dA A s.heap own Ts) (X : hy_X s A sa) (hM : hy_Ct l y wd d D dA sa As wc mc ms rv post w1) (cw : vx_CSW R s args own index y bytes maxL ret hh wd (hv_rm d mc ms) mc ms n) (hs : ws.Perm (wc ++ wr)) (hn : As.length = n)
    (hst : st = As.reverse ++ rest) (hroom : (rest.map fun v => v.category).sum ≤ 8)
    (hdg : decode cc pc = .ok (.invokestatic index, 3)) (hf : ce + mc ≤ R.cells ∧ sl + ms ≤ R.slots)
    (K : ∀ u : S, post u → hv_V p l e R s m args below meth c nL D A s.heap Q (ce + mc) (sl + ms) (w1 u ++ wr) lv ((rv u).toList ++ rest) (pc + 3)) :
    hv_V p l e R s m args below meth c nL D A s.heap Q ce sl ws lv st pc := by
  refine hv_after (a := As.toArray) C hs (fun H locs la hP hD hS hl => ?_) K
  have hPc := hv_Pl (hv_Pp hs hP)
  have hF : ∀ q, va_A wc H.size q → A q := by
    intro q h
    rcases h with ⟨k, e, h⟩ | h
    · exact (hv_Dm.mp (hv_Dp hs hD)).2 (q, e) (List.mem_append_left _ (List.mem_of_getElem? h))
    · exact C.2.2.1 q (Nat.le_trans hS.1 h)
  have hZ : ∀ U : State, U.heap = H → s.WarmedH U.vm → hx_Z (va_A wc H.size) U U.heap := fun U hU hW => by
    have hk : ∀ a : Nat, a < s.heap.size → ¬ A a → H[a]? = s.heap[a]? := fun a h1 h2 => hS.2.1 a h1 h2
    rw [hU]
    exact ⟨vx_Zq.moved hW.alike ((vx_Zq.kept X.2.1 hk).narrow hF), vx_Zq.moved hW.alike ((vx_Zq.kept X.2.2 hk).narrow hF)⟩
  exact vx_runSW (As := As) (rest := rest) C.1 (hM H.size) cw ⟨hx_blind, fun U hU hW => ⟨rfl, ⟨by rw [hU], by rw [hU]; exact hPc, va_K.moved hW.alike C.2.1, (hv_Dl (hv_Dp hs hD)).weaken (fun _ _ _ _ => trivial), C.2.2.2.warm hW⟩, X.1.warm hW, hZ U hU hW⟩⟩ rfl hn hl.1 hst (lv_room hroom) hdg hf
/-- the law's own script -/
theorem hy_sld (C : hv_C p s m args c cc nL D dA A s.heap own Ts) {b9 L : Nat} {xs : Nat → Int32} (hX : va_X b9 L xs s s.heap) (hbl : b9 < s.heap.size) (hbA : ¬ A b9) {i : Int32} (hdg : decode cc pc = .ok (.iaload, 1)) (j : Nat) (hi : i = nI j) (hj : j < L) (hL : L < 2 ^ 31) (K : hv_V p l e R s m args below meth c nL D A s.heap Q ce sl ws lv (.int (xs j) :: st) (pc + 1)) : hv_V p l e R s m args below meth c nL D A s.heap Q ce sl ws lv (.int i :: .ref b9 :: st) pc := by
  subst hi
  intro H locs la hP hD hS hl
  refine va_sld C.1.1 C.1.2.1 hX hbl hbA hS (vp_in_nI hj hL) hdg ?_
  rw [nI_clamp (by omega)]
  exact K H locs la hP hD hS hl
theorem hy_slen (C : hv_C p s m args c cc nL D dA A s.heap own Ts) {b9 L : Nat} {xs : Nat → Int32} (hX : va_X b9 L xs s s.heap) (hbl : b9 < s.heap.size) (hbA : ¬ A b9) (hdg : decode cc pc = .ok (.arraylength, 1)) (K : hv_V p l e R s m args below meth c nL D A s.heap Q ce sl ws lv (.int (nI L) :: st) (pc + 1)) : hv_V p l e R s m args below meth c nL D A s.heap Q ce sl ws lv (.ref b9 :: st) pc :=
  fun H locs la hP hD hS hl => va_slen C.1.1 C.1.2.1 hX hbl hbA hS hdg (K H locs la hP hD hS hl)
end HY
