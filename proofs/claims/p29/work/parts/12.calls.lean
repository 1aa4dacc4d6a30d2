/-! contracts over worlds: S what is not known ahead, rv the answer, w1 the world behind -/
def hv_rm (d mc ms : Nat) : Room := { frames := d, cells := mc, slots := ms, locals := 40 * d }
def hv_P (D : va_G) (dA : Nat → ClassId) (ws : va_W) (sz : Nat) (U : State) : Prop := U.heap.size = sz ∧ va_P D vwCl ws U.heap ∧ va_K D vwCl (hv_tys dA) U ∧ va_D (fun _ => True) ws ∧ hv_N U
def hv_Q {S : Type} (D : va_G) (rv : S → Option Value) (post : S → Prop) (w1 : S → va_W) (A : Nat → Prop) : Array Value → State → Outcome → State → Prop := fun _ st oc t => (∃ u : S, oc = .returned (rv u) ∧ post u ∧ va_P D vwCl (w1 u) t.heap ∧ va_D A (w1 u)) ∧ va_F A st t
def hv_Ct (l : Launch) (y : MethodName) (wd : List Cond) (d : Nat) (D : va_G) (dA : Nat → ClassId) (av : List Value) (ws : va_W) (mc ms : Nat) {S : Type} (rv : S → Option Value) (post : S → Prop) (w1 : S → va_W) : Prop :=
  ∀ sz : Nat, Met l y wd (hv_rm d mc ms) (va_Pc av (hv_P D dA ws sz)) (hv_Q D rv post w1 (va_A ws sz)) mc ms (va_A ws sz)
theorem hv_blind {D : va_G} {dA : Nat → ClassId} {ws : va_W} {sz : Nat} {av : List Value} : FrameBlind (va_Pc av (hv_P D dA ws sz)) := fun a U g mk q => by
  obtain ⟨q0, q1, qP, qK, qD, qN⟩ := q
  exact ⟨q0, q1, qP, va_K.moved (u := U) (U := U.calling g mk a) (Vm.Alike.refl U.vm) qK, qD, qN.same rfl⟩
theorem hv_join {D : va_G} {cl : List vw_C} {A : Nat → Prop} {ws wc wr w1 : va_W} {H H1 : Heap} (hs : ws.Perm (wc ++ wr)) (hP : va_P D cl ws H) (hD : va_D A ws) (hk : ∀ q : Nat, q < H.size → ¬ va_A wc H.size q → H1[q]? = H[q]?) (hF : ∀ q, va_A wc H.size q → A q) (hP1 : va_P D cl w1 H1) (hD1 : va_D (va_A wc H.size) w1) : va_P D cl (w1 ++ wr) H1 ∧ va_D A (w1 ++ wr) := by
  have hPw := hv_Pp hs hP
  have hDw := hv_Dp hs hD
  have hx := hv_Dx hDw
  have hPr := hv_Pm.mp (hv_Pr hPw)
  have hout : ∀ y ∈ wr, y.1 < H.size ∧ ¬ va_A wc H.size y.1 := by
    intro y hy
    have hl := (hPr y hy).lt
    refine ⟨hl, fun h => ?_⟩
    rcases h with ⟨k, e, h⟩ | h
    · exact hx _ (List.mem_of_getElem? h) y hy rfl
    · omega
  have h1 := hv_Pm.mp hP1
  obtain ⟨d1, d2⟩ := hv_Dm.mp hD1
  obtain ⟨e1, e2⟩ := hv_Dm.mp (hv_Dr hDw)
  refine ⟨hv_Pm.mpr fun q hq => ?_, hv_Dm.mpr ⟨?_, fun q hq => ?_⟩⟩
  · rcases List.mem_append.mp hq with h | h
    · exact h1 q h
    · exact (hPr q h).kept (hk q.1 (hout q h).1 (hout q h).2)
  · rw [List.map_append]
    refine List.nodup_append.mpr ⟨d1, e1, fun a ha b hb hab => ?_⟩
    obtain ⟨x, hx1, rfl⟩ := List.mem_map.mp ha
    obtain ⟨y, hy1, rfl⟩ := List.mem_map.mp hb
    exact (hout y hy1).2 (by rw [← hab]; exact d2 x hx1)
  · rcases List.mem_append.mp hq with h | h
    · exact hF _ (d2 q h)
    · exact e2 q h
section HVC
variable {p : Program} {l : Launch} {e : Env} {R : Room} {s : State} {m : MethodId} {args : Array Value} {below : List Frame} {meth : Method} {c : Code} {Q : State → Prop} {cc : ByteArray} {nL : Nat} {D : va_G} {dA : Nat → ClassId} {A : Nat → Prop} {H0 : Heap} {own : String} {Ts : List Cond} {ce sl : Nat} {ws : va_W} {lv : List (Nat × Value)} {st : List Value} {pc : Nat}
variable {y : MethodName} {bytes : ByteArray} {maxL index n mc ms d : Nat} {ret : Option FieldType} {wd : List Cond} {Cn : String} {b : Nat} {As rest : List Value} {wc wr : va_W} {S : Type} {rv : S → Option Value} {post : S → Prop} {w1 : S → va_W}
/-- a callee's run, to its end, with the world behind -/
theorem hv_after {a : Array Value} (C : hv_C p s m args c cc nL D dA A H0 own Ts) (hs : ws.Perm (wc ++ wr))
    (hr : ∀ H locs la, va_P D vwCl ws H → va_D A ws → va_S A H0 H locs → lv_has la nL lv → va_Run p l e R s m args below meth c H locs ce sl mc ms (F0 m pc la st) rest (hv_Q D rv post w1 (va_A wc H.size) a) (va_A wc H.size))
    (K : ∀ u : S, post u → hv_V p l e R s m args below meth c nL D A H0 Q (ce + mc) (sl + ms) (w1 u ++ wr) lv ((rv u).toList ++ rest) (pc + 3)) :
    hv_V p l e R s m args below meth c nL D A H0 Q ce sl ws lv st pc := by
  intro H locs la hP hD hS hl T hT X
  obtain ⟨v, st₀, t, T', L, h0, X', hL, e1, e2, ⟨⟨u, hv, hp, hP1, hD1⟩, hz, hk⟩, st⟩ := hr H locs la hP hD hS hl T hT X
  cases hv
  rw [h0] at hz hk
  have hF : ∀ q, va_A wc H.size q → A q := by
    intro q h
    rcases h with ⟨k, e, h⟩ | h
    · exact (hv_Dm.mp (hv_Dp hs hD)).2 (q, e) (List.mem_append_left _ (List.mem_of_getElem? h))
    · exact C.2.2.1 q (Nat.le_trans hS.1 h)
  obtain ⟨hP2, hD2⟩ := hv_join hs hP hD (fun q h1 h2 => hk q h1 h2) hF hP1 hD1
  obtain ⟨t2, a1, b1⟩ := K u hp T'.heap (locs ++ L) la (by rw [e1]; exact hP2) hD2
    ⟨Nat.le_trans hS.1 (by rw [e1]; exact hz), fun q h1 h2 => by rw [e1, hk q (Nat.lt_of_lt_of_le h1 hS.1) (fun z => h2 (hF q z))]; exact hS.2.1 q h1 h2, fun q hq => by
      rcases List.mem_append.mp hq with h | h
      · exact hS.2.2 q h
      · exact hF _ (hL q h)⟩ hl T' rfl X'
  exact ⟨t2, st t2 a1, b1⟩
theorem hv_callV (C : hv_C p s m args c cc nL D dA A H0 own Ts) (hM : hv_Ct l y wd d D dA (.ref b :: As) wc mc ms rv post w1) (cw : CallW R s args own Cn index y bytes maxL ret wd (hv_rm d mc ms) mc ms n) (hs : ws.Perm (wc ++ wr)) (hn : As.length = n)
    (q0 ci : Nat) {fs : List Value} {T : u_T} {N : Nat} (hq : wc[q0]? = some (b, .inr (ci, fs))) (hc : vwCl[ci]? = some (Cn, T, N)) (hst : st = As.reverse ++ .ref b :: rest) (hroom : (rest.map fun v => v.category).sum ≤ 8)
    (hdg : decode cc pc = .ok (.invokevirtual index, 3)) (hf : ce + mc ≤ R.cells ∧ sl + ms ≤ R.slots)
    (K : ∀ u : S, post u → hv_V p l e R s m args below meth c nL D A H0 Q (ce + mc) (sl + ms) (w1 u ++ wr) lv ((rv u).toList ++ rest) (pc + 3)) :
    hv_V p l e R s m args below meth c nL D A H0 Q ce sl ws lv st pc := by
  refine hv_after (a := (Value.ref b :: As).toArray) C hs (fun H locs la hP hD hS hl => ?_) K
  have hPc := hv_Pl (hv_Pp hs hP)
  exact va_runV (As := As) (rest := rest) C.1 (hM H.size) cw ⟨hv_blind, va_recv C.2.1 hPc (ci := ci) (q0 := q0) hc hq, fun U hU hW => ⟨rfl, by rw [hU], by rw [hU]; exact hPc, va_K.moved hW.alike C.2.1, (hv_Dl (hv_Dp hs hD)).weaken (fun _ _ _ _ => trivial), C.2.2.2.warm hW⟩⟩ rfl hn hl.1 hst (lv_room hroom) hdg hf
theorem hv_callS (C : hv_C p s m args c cc nL D dA A H0 own Ts) (hM : hv_Ct l y wd d D dA As wc mc ms rv post w1) (cw : CallB R s args own index y bytes maxL ret wd (hv_rm d mc ms) mc ms n ∧ (Cond.static y).before args s = true) (hs : ws.Perm (wc ++ wr)) (hn : As.length = n)
    (hst : st = As.reverse ++ rest) (hroom : (rest.map fun v => v.category).sum ≤ 8)
    (hdg : decode cc pc = .ok (.invokestatic index, 3)) (hf : ce + mc ≤ R.cells ∧ sl + ms ≤ R.slots)
    (K : ∀ u : S, post u → hv_V p l e R s m args below meth c nL D A H0 Q (ce + mc) (sl + ms) (w1 u ++ wr) lv ((rv u).toList ++ rest) (pc + 3)) :
    hv_V p l e R s m args below meth c nL D A H0 Q ce sl ws lv st pc := by
  refine hv_after (a := As.toArray) C hs (fun H locs la hP hD hS hl => ?_) K
  have hPc := hv_Pl (hv_Pp hs hP)
  exact va_runS (As := As) (rest := rest) C.1 (hM H.size) cw ⟨hv_blind, fun U hU hW => ⟨rfl, by rw [hU], by rw [hU]; exact hPc, va_K.moved hW.alike C.2.1, (hv_Dl (hv_Dp hs hD)).weaken (fun _ _ _ _ => trivial), C.2.2.2.warm hW⟩⟩ rfl hn hl.1 hst (lv_room hroom) hdg hf
theorem hv_callI (C : hv_C p s m args c cc nL D dA A H0 own Ts) (hM : hv_Ct l y wd d D dA (.ref b :: As) wc mc ms rv post w1) (cw : CallB R s args own index y bytes maxL none wd (hv_rm d mc ms) mc ms n ∧ y.name = "<init>" ∧ (Cond.instanceMethod y).before args s = true) (hs : ws.Perm (wc ++ wr)) (hn : As.length = n)
    (hst : st = As.reverse ++ .ref b :: rest) (hroom : (rest.map fun v => v.category).sum ≤ 8)
    (hdg : decode cc pc = .ok (.invokespecial index, 3)) (hf : ce + mc ≤ R.cells ∧ sl + ms ≤ R.slots)
    (K : ∀ u : S, post u → hv_V p l e R s m args below meth c nL D A H0 Q (ce + mc) (sl + ms) (w1 u ++ wr) lv ((rv u).toList ++ rest) (pc + 3)) :
    hv_V p l e R s m args below meth c nL D A H0 Q ce sl ws lv st pc := by
  refine hv_after (a := (Value.ref b :: As).toArray) C hs (fun H locs la hP hD hS hl => ?_) K
  have hPc := hv_Pl (hv_Pp hs hP)
  exact va_runI (As := As) (rest := rest) C.1 (hM H.size) cw ⟨hv_blind, fun U hU hW => ⟨rfl, by rw [hU], by rw [hU]; exact hPc, va_K.moved hW.alike C.2.1, (hv_Dl (hv_Dp hs hD)).weaken (fun _ _ _ _ => trivial), C.2.2.2.warm hW⟩⟩ rfl hn hl.1 hst (lv_room hroom) hdg hf
theorem hv_callIN {host : String} (C : hv_C p s m args c cc nL D dA A H0 own Ts) (hM : hv_Ct l y wd d D dA (.ref b :: As) wc mc ms rv post w1) (cw : va_CN R s args own index y host bytes maxL none wd (hv_rm d mc ms) mc ms n ∧ y.name = "<init>" ∧ (Cond.instanceMethod y).before args s = true) (hs : ws.Perm (wc ++ wr)) (hn : As.length = n)
    (hst : st = As.reverse ++ .ref b :: rest) (hroom : (rest.map fun v => v.category).sum ≤ 8)
    (hdg : decode cc pc = .ok (.invokespecial index, 3)) (hf : ce + mc ≤ R.cells ∧ sl + ms ≤ R.slots)
    (K : ∀ u : S, post u → hv_V p l e R s m args below meth c nL D A H0 Q (ce + mc) (sl + ms) (w1 u ++ wr) lv ((rv u).toList ++ rest) (pc + 3)) :
    hv_V p l e R s m args below meth c nL D A H0 Q ce sl ws lv st pc := by
  refine hv_after (a := (Value.ref b :: As).toArray) C hs (fun H locs la hP hD hS hl => ?_) K
  have hPc := hv_Pl (hv_Pp hs hP)
  exact va_runIN (As := As) (rest := rest) C.1 (hM H.size) cw ⟨hv_blind, fun U hU hW => ⟨rfl, by rw [hU], by rw [hU]; exact hPc, va_K.moved hW.alike C.2.1, (hv_Dl (hv_Dp hs hD)).weaken (fun _ _ _ _ => trivial), C.2.2.2.warm hW⟩⟩ rfl hn hl.1 hst (lv_room hroom) hdg hf
theorem hv_pm {α : Type} {ws ws' : List α} (is : List Nat) (h : hv_rmv ws is = ws') : ws.Perm ws' := h ▸ hv_rmvp is ws
/-- invokespecial Object.<init> -/
theorem hv_obj (C : hv_C p s m args c cc nL D dA A H0 own Ts) {idx a : Nat} (hdg : decode cc pc = .ok (.invokespecial idx, 3)) (h1 : Cond.methodLink own idx objectInit ∈ Ts) (h2 : Cond.instanceMethod objectInit ∈ Ts) (h3 : Cond.code objectInit ⟨#[0xb1]⟩ 1 none ∈ Ts) (hroom : (rest.map fun v => v.category).sum ≤ 8) (hR : 1 ≤ R.frames ∧ 20 ≤ R.locals)
    (K : hv_V p l e R s m args below meth c nL D A H0 Q ce sl ws lv rest (pc + 3)) : hv_V p l e R s m args below meth c nL D A H0 Q ce sl ws lv (.ref a :: rest) pc := by
  intro H locs la hP hD hS hl
  refine W.objInit C.1.1 C.1.2.1 C.1.2.2.2.1 (C.1.2.2.2.2 _ h1) (C.1.2.2.2.2 _ h2) (C.1.2.2.2.2 _ h3) rfl (by rw [C.1.2.2.1]; exact hl.1) rfl hdg hR.1 ?_ (K H locs la hP hD hS hl)
  have := lv_room (m := m) (pc := pc) (ls := la) (rest := .ref a :: rest) hroom
  omega
theorem hv_new (C : hv_C p s m args c cc nL D dA A H0 own Ts) {T : u_T} {N ci : Nat} {fs : List Value} (hdg : decode cc pc = .ok (.new index, 3)) (hin : ∀ w ∈ u_ws Cn T N, w ∈ Ts) (ty0 : Nat → FieldType) (hty : ∀ k, k < N → parseFieldDescriptor (T k).2.2.1 = some (ty0 k)) (h1 : Cond.classLink own index Cn ∈ Ts) (h2 : Cond.instantiable Cn N ∈ Ts) (h3 : Cond.initialized Cn ∈ Ts)
    (hc : vwCl[ci]? = some (Cn, T, N)) (hfs : ∀ j, j < N → defaultValue (ty0 j) = vp_V fs j) (hcells : ce + 1 ≤ R.cells) (hslots : sl + N ≤ R.slots)
    (K : ∀ q : Nat, hv_V p l e R s m args below meth c nL D A H0 Q (ce + 1) (sl + N) (ws ++ [(q, .inr (ci, fs))]) lv (.ref q :: st) (pc + 3)) : hv_V p l e R s m args below meth c nL D A H0 Q ce sl ws lv st pc := by
  intro H locs la hP hD hS hl
  exact va_new (D := D) C.1.1 C.1.2.1 C.1.2.2.2.2 hin ty0 hty C.1.2.2.2.1 (C.1.2.2.2.2 _ h1) (C.1.2.2.2.2 _ h2) (C.1.2.2.2.2 _ h3) C.2.1 hP hD hS C.2.2.1 hc hfs hcells hslots hdg (fun q H1 hP hD hS => K q H1 locs la hP hD hS hl)
theorem hv_newa (C : hv_C p s m args c cc nL D dA A H0 own Ts) {atype : ArrayType} {ty : FieldType} (hdg : decode cc pc = .ok (.newarray atype, 2)) (hty : newarray.typeOf atype = ty) (h1 : Cond.arrayClass (newarray.typeOf atype) ∈ Ts) (t0 : Nat) {cA : ClassId} (ht : (hv_tys dA)[t0]? = some (cA, ty)) (hno : ∀ C9, ty ≠ .object C9)
    {n : Int32} {N' : Nat} (a0 : vp_A) (ha : ∀ cA : ClassId, vp_cell cA a0 = arrV cA N' (fun _ => defaultValue ty)) (hn : n = nI N') (hN : N' < 2 ^ 20) (hb : N' * componentBytes ty ≤ 536870912) (hcells : ce + 1 ≤ R.cells) (hslots : sl + N' ≤ R.slots)
    (K : ∀ q : Nat, hv_V p l e R s m args below meth c nL D A H0 Q (ce + 1) (sl + N') (ws ++ [(q, .inl (cA, a0))]) lv (.ref q :: st) (pc + 2)) : hv_V p l e R s m args below meth c nL D A H0 Q ce sl ws lv (.int n :: st) pc := by
  intro H locs la hP hD hS hl
  subst hn
  refine va_newa (D := D) C.1.1 C.1.2.1 (C.1.2.2.2.2 _ h1) hty C.2.1 hP hD hS C.2.2.1 ha (nI_pos (by omega)) (nI_clamp (by omega)) hb hcells hslots hdg (fun q cB H1 hK hP hD hS => ?_)
  have h4 := (C.2.1.2 t0 _ ht).2
  have h5 := (hK.2 (hv_tys dA).length (cB, ty) (by rw [List.getElem?_append_right (Nat.le_refl _), Nat.sub_self]; rfl)).2
  have h6 : cB = cA := by
    unfold va_RA at h4 h5
    split at h5
    · next C9 hC9 => exact absurd hC9 (hno C9)
    · split at h4
      · next C9 hC9 => exact absurd hC9 (hno C9)
      · exact Option.some.inj (h5.symm.trans h4)
  subst h6
  exact K q H1 locs la hP hD hS hl
theorem hv_newq (C : hv_C p s m args c cc nL D dA A H0 own Ts) (hdg : decode cc pc = .ok (.anewarray index, 3)) (h1 : Cond.classLink own index Cn ∈ Ts) (h2 : (Cond.arrayOver (.object Cn)).before args s = true) (t0 : Nat) {cA : ClassId} (ht : (hv_tys dA)[t0]? = some (cA, .object Cn))
    {n : Int32} {N' : Nat} (hn : n = nI N') (hN : N' < 2 ^ 20) (hcells : ce + 1 ≤ R.cells) (hslots : sl + N' ≤ R.slots)
    (K : ∀ q : Nat, hv_V p l e R s m args below meth c nL D A H0 Q (ce + 1) (sl + N') (ws ++ [(q, .inl (cA, N', .inr (.inr (.inr (.inr (fun _ => none))))))]) lv (.ref q :: st) (pc + 3)) : hv_V p l e R s m args below meth c nL D A H0 Q ce sl ws lv (.int n :: st) pc := by
  intro H locs la hP hD hS hl
  subst hn
  refine va_newq (D := D) C.1.1 C.1.2.1 C.1.2.2.2.1 (C.1.2.2.2.2 _ h1) (va_AO.of h2) C.2.1 hP hD hS C.2.2.1 (nI_pos (by omega)) (nI_clamp (by omega)) (by omega) hcells hslots hdg (fun q cB H1 hK hP hD hS => ?_)
  obtain ⟨kA, comp, -, -, -, h4⟩ := (C.2.1.2 t0 _ ht).2
  obtain ⟨kB, comp2, -, -, -, h5⟩ := (hK.2 (hv_tys dA).length (cB, .object Cn) (by rw [List.getElem?_append_right (Nat.le_refl _), Nat.sub_self]; rfl)).2
  have h6 : cB = cA := Option.some.inj (h5.symm.trans h4)
  subst h6
  exact K q H1 locs la hP hD hS hl
/-- references in arrays: null or a cell -/
theorem hv_aald (C : hv_C p s m args c cc nL D dA A H0 own Ts) {a N : Nat} {f : Nat → Option Nat} {i : Int32} (hdg : decode cc pc = .ok (.aaload, 1)) (q0 t0 : Nat) {cA : ClassId} (ha : ws[q0]? = some (a, .inl (cA, N, .inr (.inr (.inr (.inr f)))))) (ht : (hv_tys dA)[t0]? = some (cA, .object Cn)) (j : Nat) (hi : i = nI j) (hj : j < N) (hN : N < 2 ^ 31)
    (K : hv_V p l e R s m args below meth c nL D A H0 Q ce sl ws lv (va_rf (f j) :: st) (pc + 1)) : hv_V p l e R s m args below meth c nL D A H0 Q ce sl ws lv (.int i :: .ref a :: st) pc := by
  subst hi
  intro H locs la hP hD hS hl
  refine va_aldq (D := D) C.1.1 C.1.2.1 C.2.1 hP q0 t0 ha ht (vp_in_nI hj hN) hdg ?_
  rw [nI_clamp (by omega)]
  exact K H locs la hP hD hS hl
theorem hv_aast (C : hv_C p s m args c cc nL D dA A H0 own Ts) {a N v : Nat} {f : Nat → Option Nat} {i : Int32} {vs : List Value} {r : vw_C} (hdg : decode cc pc = .ok (.aastore, 1)) (q0 t0 qk ci : Nat) {cA : ClassId} (ha : ws[q0]? = some (a, .inl (cA, N, .inr (.inr (.inr (.inr f)))))) (ht : (hv_tys dA)[t0]? = some (cA, .object r.1)) (hv : ws[qk]? = some (v, .inr (ci, vs))) (hc : vwCl[ci]? = some r) (j : Nat) (hi : i = nI j) (hj : j < N) (hN : N < 2 ^ 31)
    (K : hv_V p l e R s m args below meth c nL D A H0 Q ce sl (ws.set q0 (a, .inl (cA, N, .inr (.inr (.inr (.inr (va_up f j (some v)))))))) lv st (pc + 1)) : hv_V p l e R s m args below meth c nL D A H0 Q ce sl ws lv (.ref v :: .int i :: .ref a :: st) pc := by
  subst hi
  intro H locs la hP hD hS hl
  refine va_astq (D := D) C.1.1 C.1.2.1 C.2.1 hP hD hS q0 t0 qk ci ha ht hv hc (vp_in_nI hj hN) hdg (fun H locs hP hD hS => ?_)
  rw [nI_clamp (by omega)] at hP hD
  exact K H locs la hP hD hS hl
theorem hv_aastN (C : hv_C p s m args c cc nL D dA A H0 own Ts) {a N : Nat} {f : Nat → Option Nat} {i : Int32} (hdg : decode cc pc = .ok (.aastore, 1)) (q0 t0 : Nat) {cA : ClassId} (ha : ws[q0]? = some (a, .inl (cA, N, .inr (.inr (.inr (.inr f)))))) (ht : (hv_tys dA)[t0]? = some (cA, .object Cn)) (j : Nat) (hi : i = nI j) (hj : j < N) (hN : N < 2 ^ 31)
    (K : hv_V p l e R s m args below meth c nL D A H0 Q ce sl (ws.set q0 (a, .inl (cA, N, .inr (.inr (.inr (.inr (va_up f j none))))))) lv st (pc + 1)) : hv_V p l e R s m args below meth c nL D A H0 Q ce sl ws lv (.null :: .int i :: .ref a :: st) pc := by
  subst hi
  intro H locs la hP hD hS hl
  refine va_astqN (D := D) C.1.1 C.1.2.1 C.2.1 hP hD hS q0 t0 ha ht (vp_in_nI hj hN) hdg (fun H locs hP hD hS => ?_)
  rw [nI_clamp (by omega)] at hP hD
  exact K H locs la hP hD hS hl
/-- a local that holds null or a cell -/
theorem hv_eqst {st' : List Value} (h : st = st') (K : hv_V p l e R s m args below meth c nL D A H0 Q ce sl ws lv st' pc) : hv_V p l e R s m args below meth c nL D A H0 Q ce sl ws lv st pc := h ▸ K
theorem hv_aloadN_n (C : hv_C p s m args c cc nL D dA A H0 own Ts) {k : Fin 4} (hdg : decode cc pc = .ok (.aload_n k, 1)) (j : Nat) (hl9 : lv[j]? = some ((k : Nat), .null)) (K : hv_V p l e R s m args below meth c nL D A H0 Q ce sl ws lv (.null :: st) (pc + 1)) : hv_V p l e R s m args below meth c nL D A H0 Q ce sl ws lv st pc :=
  fun H locs la hP hD hS hl => lv_aload_nN C.1.1 C.1.2.1 hdg rfl (lv_at hl j hl9) (K H locs la hP hD hS hl)
theorem hv_astoreN_n (C : hv_C p s m args c cc nL D dA A H0 own Ts) {k : Fin 4} {lw : List (Nat × Value)} (hdg : decode cc pc = .ok (.astore_n k, 1)) (hn : (k : Nat) < nL) (hl9 : ((k : Nat), Value.null) :: lv.filter (fun q => !(q.1 == (k : Nat)) && !(q.1 + 1 == (k : Nat) && q.2.category == 2)) = lw) (K : hv_V p l e R s m args below meth c nL D A H0 Q ce sl ws lw st (pc + 1)) : hv_V p l e R s m args below meth c nL D A H0 Q ce sl ws lv (.null :: st) pc :=
  fun H locs la hP hD hS hl => lv_astore_nN C.1.1 C.1.2.1 hdg rfl hl hn hl9 (fun la9 hl => K H locs la9 hP hD hS hl)
theorem hv_mmin (C : hv_C p s m args c cc nL D dA A H0 own Ts) {x y z : Int32} (hdg : decode cc pc = .ok (.invokestatic index, 3)) (h1 : Cond.methodLink own index Lib.Math.min.name ∈ Ts) (h2 : Cond.static Lib.Math.min.name ∈ Ts) (h3 : Cond.initialized "java/lang/Math" ∈ Ts) (h4 : Cond.code Lib.Math.min.name Lib.Math.min.code 2 (some .int) ∈ Ts) (hf : 1 ≤ R.frames) (hlo : (rest.map fun v => v.category).sum + 13 ≤ R.locals) (hce : ce ≤ R.cells) (hsl : sl ≤ R.slots)
    (hz : (if y < x then y else x) = z) (K : hv_V p l e R s m args below meth c nL D A H0 Q ce sl ws lv (.int z :: rest) (pc + 3)) : hv_V p l e R s m args below meth c nL D A H0 Q ce sl ws lv (.int y :: .int x :: rest) pc := by
  subst hz
  exact fun H locs la hP hD hS hl => va_mmin C.1.1 C.1.2.1 (by rw [C.1.2.2.1]; exact hl.1.symm) C.1.2.2.2.1 (C.1.2.2.2.2 _ h1) (C.1.2.2.2.2 _ h2) (C.1.2.2.2.2 _ h3) (C.1.2.2.2.2 _ h4) hf hlo hce hsl hdg (K H locs la hP hD hS hl)
theorem hv_mmax (C : hv_C p s m args c cc nL D dA A H0 own Ts) {x y z : Int32} (hdg : decode cc pc = .ok (.invokestatic index, 3)) (h1 : Cond.methodLink own index Lib.Math.max.name ∈ Ts) (h2 : Cond.static Lib.Math.max.name ∈ Ts) (h3 : Cond.initialized "java/lang/Math" ∈ Ts) (h4 : Cond.code Lib.Math.max.name Lib.Math.max.code 2 (some .int) ∈ Ts) (hf : 1 ≤ R.frames) (hlo : (rest.map fun v => v.category).sum + 13 ≤ R.locals) (hce : ce ≤ R.cells) (hsl : sl ≤ R.slots)
    (hz : (if x < y then y else x) = z) (K : hv_V p l e R s m args below meth c nL D A H0 Q ce sl ws lv (.int z :: rest) (pc + 3)) : hv_V p l e R s m args below meth c nL D A H0 Q ce sl ws lv (.int y :: .int x :: rest) pc := by
  subst hz
  exact fun H locs la hP hD hS hl => va_mmax C.1.1 C.1.2.1 (by rw [C.1.2.2.1]; exact hl.1.symm) C.1.2.2.2.1 (C.1.2.2.2.2 _ h1) (C.1.2.2.2.2 _ h2) (C.1.2.2.2.2 _ h3) (C.1.2.2.2.2 _ h4) hf hlo hce hsl hdg (K H locs la hP hD hS hl)
theorem hv_loop {σ : Type} (I : Nat → σ → Prop) (fw : σ → va_W) (fl : σ → List (Nat × Value)) (fs : σ → List Value) (fc fd : σ → Nat) (n0 : Nat) (x0 : σ) (h0 : I n0 x0) (he : ws = fw x0 ∧ lv = fl x0 ∧ st = fs x0 ∧ ce = fc x0 ∧ sl = fd x0)
    (body : ∀ (n : Nat) (x : σ), I n x → (∀ (n' : Nat) (x' : σ), n' < n → I n' x' → hv_V p l e R s m args below meth c nL D A H0 Q (fc x') (fd x') (fw x') (fl x') (fs x') pc) → hv_V p l e R s m args below meth c nL D A H0 Q (fc x) (fd x) (fw x) (fl x) (fs x) pc) : hv_V p l e R s m args below meth c nL D A H0 Q ce sl ws lv st pc := by
  obtain ⟨rfl, rfl, rfl, rfl, rfl⟩ := he
  have key : ∀ (N n : Nat) (x : σ), n < N → I n x → hv_V p l e R s m args below meth c nL D A H0 Q (fc x) (fd x) (fw x) (fl x) (fs x) pc := by
    intro N
    induction N with
    | zero => intro n x h; exact absurd h (Nat.not_lt_zero _)
    | succ N ih => intro n x h hi; exact body n x hi (fun n' x' hn hi' => ih n' x' (by omega) hi')
  exact key (n0 + 1) n0 x0 (Nat.lt_succ_self _) h0
/-! ends -/
theorem hv_ends {ws0 : va_W} {u : S} {junk : va_W} {v : Option Value} (hs : ws.Perm (w1 u ++ junk)) (hu : post u) (hv : rv u = v) {H : Heap} {locs : List Loc} (hP : va_P D vwCl ws H) (hD : va_D A ws) (hS : va_S A s.heap H locs) (t : State) (ht : t.heap = H) : hv_Q D rv post w1 A args s (.returned v) t :=
  ⟨⟨u, by rw [hv], hu, by rw [ht]; exact hv_Pl (hv_Pp hs hP), hv_Dl (hv_Dp hs hD)⟩, hS.F ht⟩
theorem hv_iret (C : hv_C p s m args c cc nL D dA A s.heap own Ts) (M : meth.sig.returnType = ret ∧ meth.locks = false ∧ meth.name = y.name) {ty : FieldType} {v : Int32} (hdg : decode cc pc = .ok (.ireturn, 1)) (hr : ret = some ty) (hn : narrow ty (.int v) = .int v) (u : S) (hu : post u) (hv : rv u = some (.int v)) (junk : va_W) (hs : ws.Perm (w1 u ++ junk)) (hc : ce ≤ mc) (hl : sl ≤ ms) :
    hv_V p l e R s m args below meth c nL D A s.heap (MQ below (hv_Q D rv post w1 A) args s mc ms A) ce sl ws lv [.int v] pc :=
  fun H locs la hP hD hS _ => W.widen hc hl (W.zret C.1.1 C.1.2.1 (M.1.trans hr) hn (fun t ht _ => hv_ends (ws0 := ws) hs hu hv hP hD hS t ht) hS.2.2 hdg M.2.1)
theorem hv_lret (C : hv_C p s m args c cc nL D dA A s.heap own Ts) (M : meth.sig.returnType = ret ∧ meth.locks = false ∧ meth.name = y.name) {v : Int64} (hdg : decode cc pc = .ok (.lreturn, 1)) (hr : ret = some .long) (u : S) (hu : post u) (hv : rv u = some (.long v)) (junk : va_W) (hs : ws.Perm (w1 u ++ junk)) (hc : ce ≤ mc) (hl : sl ≤ ms) :
    hv_V p l e R s m args below meth c nL D A s.heap (MQ below (hv_Q D rv post w1 A) args s mc ms A) ce sl ws lv [.long v] pc :=
  fun H locs la hP hD hS _ => W.widen hc hl (W.lret C.1.1 C.1.2.1 (M.1.trans hr) (fun t ht _ => hv_ends (ws0 := ws) hs hu hv hP hD hS t ht) hS.2.2 hdg M.2.1)
theorem hv_aret (C : hv_C p s m args c cc nL D dA A s.heap own Ts) (M : meth.sig.returnType = ret ∧ meth.locks = false ∧ meth.name = y.name) {v : Nat} {rt : FieldType} (hdg : decode cc pc = .ok (.areturn, 1)) (hr : ret = some rt) (hrt : (∃ n, rt = .object n) ∨ ∃ t, rt = .array t) (u : S) (hu : post u) (hv : rv u = some (.ref v)) (junk : va_W) (hs : ws.Perm (w1 u ++ junk)) (hc : ce ≤ mc) (hl : sl ≤ ms) :
    hv_V p l e R s m args below meth c nL D A s.heap (MQ below (hv_Q D rv post w1 A) args s mc ms A) ce sl ws lv [.ref v] pc :=
  fun H locs la hP hD hS _ => W.widen hc hl (W.aret C.1.1 C.1.2.1 (M.1.trans hr) hrt (Or.inr ⟨v, rfl⟩) (fun t ht _ => hv_ends (ws0 := ws) hs hu hv hP hD hS t ht) hS.2.2 hdg M.2.1)
theorem hv_vret (C : hv_C p s m args c cc nL D dA A s.heap own Ts) (M : meth.sig.returnType = ret ∧ meth.locks = false ∧ meth.name = y.name) (hdg : decode cc pc = .ok (.return_, 1)) (hr : ret = none) (u : S) (hu : post u) (hv : rv u = none) (junk : va_W) (hs : ws.Perm (w1 u ++ junk)) (hc : ce ≤ mc) (hl : sl ≤ ms) :
    hv_V p l e R s m args below meth c nL D A s.heap (MQ below (hv_Q D rv post w1 A) args s mc ms A) ce sl ws lv [] pc :=
  fun H locs la hP hD hS _ => W.widen hc hl (W.vret C.1.1 C.1.2.1 (M.1.trans hr) (fun t ht _ => hv_ends (ws0 := ws) hs hu hv hP hD hS t ht) hS.2.2 hdg M.2.1)
/-- a body gives its contract -/
theorem hv_of {cc : ByteArray} {ws' : List Cond} {av : List Value} {ws : va_W} (ho : y.cls = own) (hy : plainName y.cls = true) (hw : wd = Cond.code y cc maxL ret :: ws') (ha : (lg_sl av).length ≤ maxL)
    (body : ∀ (p : Program) (e : Env) (s : State) (m : MethodId) (args : Array Value) (below : List Frame) (meth : Method) (c : Code), hv_C p s m args c cc maxL D dA (va_A ws s.heap.size) s.heap own wd → (meth.sig.returnType = ret ∧ meth.locks = false ∧ meth.name = y.name) →
      hv_V p l e (hv_rm d mc ms) s m args below meth c maxL D (va_A ws s.heap.size) s.heap (MQ below (hv_Q D rv post w1 (va_A ws s.heap.size)) args s mc ms (va_A ws s.heap.size)) 0 0 ws (lv_args 0 av) [] 0) : hv_Ct l y wd d D dA av ws mc ms rv post w1 := by
  intro sz
  refine Met.ofW (cc := cc) (maxL := maxL) (ret := ret) hy hw ?_
  intro p e s m args below meth c s₁ B hml hv
  obtain ⟨rfl, rfl, hP, hK, hD0, hN⟩ := hv
  have hts := atoms_spec (ws := wd) B.pre
  have hown : s.vm.findClass own = some m.cls := ho ▸ findClass_of_methodNamed B.named
  have hl := lv_entry av (n := maxL) ha
  rw [lg_entry_eq]
  exact body p e s m av.toArray below meth c ⟨⟨B.exec, B.bytes, hml, hown, hts⟩, hK, fun q h => Or.inr h, hN⟩ ⟨B.returns, B.notSynchronized, (name_of_methodNamed B.named B.method).1⟩ s.heap [] _ hP hD0.self va_S.rf hl
end HVC
