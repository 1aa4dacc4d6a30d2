/-! methods that may throw: the layer over the kit's rows for exceptions -/
def hx_IAE : String := "java/lang/IllegalArgumentException"
def hx_ISE : String := "java/lang/IllegalStateException"
def hx_IOE : String := "java/lang/IndexOutOfBoundsException"
def hx_Es : List String := [hx_IAE, hx_ISE, hx_IOE]
def hx_Ds : List String := ["java/lang/RuntimeException", "java/lang/Exception", "java/lang/Throwable"]
def hx_up : List String := ["java/lang/RuntimeException", "java/lang/Exception"]
def hx_S : List (Nat × String) := [(46, "not a character code"), (57, "the text is full"), (68, "the text is not a garden"), (153, "nothing is told by this number"), (322, "no such stem"), (168, "no such gardener"), (329, "no such setting"), (195, "no hedge has so many stems"), (200, "no hedge of these stems has this number"), (327, "no clip has these stems or leaves"), (216, "these stems are bare"), (231, "the stem has all leaves"), (239, "no such wind"), (241, "the value is out of its range"), (246, "no state is remembered"), (270, "the number of clips is out of its range"), (282, "the number of commands is out of its range"), (288, "the script is negative or has too many digits"), (301, "the number of turns is out of its range"), (318, "no such save slot"), (320, "nothing has been saved in this slot")]
theorem hx_s46 : (46, "not a character code") ∈ hx_S := List.mem_of_getElem? (i := 0) rfl
theorem hx_s57 : (57, "the text is full") ∈ hx_S := List.mem_of_getElem? (i := 1) rfl
theorem hx_s68 : (68, "the text is not a garden") ∈ hx_S := List.mem_of_getElem? (i := 2) rfl
theorem hx_s153 : (153, "nothing is told by this number") ∈ hx_S := List.mem_of_getElem? (i := 3) rfl
theorem hx_s322 : (322, "no such stem") ∈ hx_S := List.mem_of_getElem? (i := 4) rfl
theorem hx_s168 : (168, "no such gardener") ∈ hx_S := List.mem_of_getElem? (i := 5) rfl
theorem hx_s329 : (329, "no such setting") ∈ hx_S := List.mem_of_getElem? (i := 6) rfl
theorem hx_s195 : (195, "no hedge has so many stems") ∈ hx_S := List.mem_of_getElem? (i := 7) rfl
theorem hx_s200 : (200, "no hedge of these stems has this number") ∈ hx_S := List.mem_of_getElem? (i := 8) rfl
theorem hx_s327 : (327, "no clip has these stems or leaves") ∈ hx_S := List.mem_of_getElem? (i := 9) rfl
theorem hx_s216 : (216, "these stems are bare") ∈ hx_S := List.mem_of_getElem? (i := 10) rfl
theorem hx_s231 : (231, "the stem has all leaves") ∈ hx_S := List.mem_of_getElem? (i := 11) rfl
theorem hx_s239 : (239, "no such wind") ∈ hx_S := List.mem_of_getElem? (i := 12) rfl
theorem hx_s241 : (241, "the value is out of its range") ∈ hx_S := List.mem_of_getElem? (i := 13) rfl
theorem hx_s246 : (246, "no state is remembered") ∈ hx_S := List.mem_of_getElem? (i := 14) rfl
theorem hx_s270 : (270, "the number of clips is out of its range") ∈ hx_S := List.mem_of_getElem? (i := 15) rfl
theorem hx_s282 : (282, "the number of commands is out of its range") ∈ hx_S := List.mem_of_getElem? (i := 16) rfl
theorem hx_s288 : (288, "the script is negative or has too many digits") ∈ hx_S := List.mem_of_getElem? (i := 17) rfl
theorem hx_s301 : (301, "the number of turns is out of its range") ∈ hx_S := List.mem_of_getElem? (i := 18) rfl
theorem hx_s318 : (318, "no such save slot") ∈ hx_S := List.mem_of_getElem? (i := 19) rfl
theorem hx_s320 : (320, "nothing has been saved in this slot") ∈ hx_S := List.mem_of_getElem? (i := 20) rfl
def hx_N (sa : Nat → Nat) (s : State) : Prop := (∀ q ∈ hx_S, vk_R RX8 q.1 q.2 (sa q.1) s) ∧ (∀ E ∈ hx_Es, va_Nw (.castable E E) s) ∧ (∀ E ∈ hx_Es, ∀ F ∈ hx_Es, E ≠ F → va_Nc E F s) ∧ ∀ n ∈ hx_Ds, va_Nw (.declares (Bundle.initS n)) s
theorem hx_N.warm {sa : Nat → Nat} {s U : State} (hW : s.WarmedH U.vm) (h : hx_N sa s) : hx_N sa U := ⟨fun q hq => vk_R.warm hW (h.1 q hq), fun E hE => va_Nw.warmC hW (h.2.1 E hE), fun E hE F hF hn => va_Nc.moved hW.alike (h.2.2.1 E hE F hF hn), fun n hn => va_Nw.warmD hW (h.2.2.2 n hn)⟩
theorem hx_N.same {sa : Nat → Nat} {u U : State} (e : u.vm = U.vm) (h : hx_N sa u) : hx_N sa U := ⟨fun q hq => vk_R.same e.symm (h.1 q hq), fun E hE => va_Nw.same rfl e (h.2.1 E hE), fun E hE F hF hn => va_Nc.moved (e ▸ Vm.Alike.refl _) (h.2.2.1 E hE F hF hn), fun n hn => va_Nw.same rfl e (h.2.2.2 n hn)⟩
def hx_Z (A : Nat → Prop) (U : State) (H : Heap) : Prop := vx_Zq Bundle.tN "UNASSIGNED_STACK" Bundle.steD A U H ∧ vx_Zq Bundle.tN "SUPPRESSED_SENTINEL" Bundle.listD A U H
def hx_P (D : va_G) (dA : Nat → ClassId) (sa : Nat → Nat) (ws : va_W) (sz : Nat) (U : State) : Prop := hv_P D dA ws sz U ∧ hx_N sa U ∧ hx_Z (va_A ws sz) U U.heap
def hx_X (D : va_G) (ws : va_W) (PX : String → Prop) (A : Nat → Prop) : String → State → State → Prop := vx_X (fun _ : Unit => True) (fun E _ t => PX E ∧ va_P D vwCl ws t.heap ∧ va_D A ws) A
def hx_Ct (l : Launch) (y : MethodName) (wd : List Cond) (d : Nat) (D : va_G) (dA : Nat → ClassId) (sa : Nat → Nat) (av : List Value) (ws : va_W) (mc ms : Nat) {S : Type} (rv : S → Option Value) (post : S → Prop) (w1 : S → va_W) (PX : String → Prop) : Prop :=
  ∀ sz : Nat, vx_Met l y wd (hv_rm d mc ms) (va_Pc av (hx_P D dA sa ws sz)) (hv_Q D rv post w1 (va_A ws sz)) (hx_X D ws PX (va_A ws sz)) mc ms (va_A ws sz)
theorem hx_blind {D : va_G} {dA : Nat → ClassId} {sa : Nat → Nat} {ws : va_W} {sz : Nat} {av : List Value} : FrameBlind (va_Pc av (hx_P D dA sa ws sz)) := fun a U g mk q => by
  obtain ⟨q0, ⟨q1, qP, qK, qD, qN⟩, qX, qZ⟩ := q
  exact ⟨q0, ⟨q1, qP, va_K.moved (u := U) (U := U.calling g mk a) (Vm.Alike.refl U.vm) qK, qD, qN.same rfl⟩, qX.same rfl, vx_Zq.moved (u := U) (U := U.calling g mk a) (Vm.Alike.refl U.vm) qZ.1, vx_Zq.moved (u := U) (U := U.calling g mk a) (Vm.Alike.refl U.vm) qZ.2⟩
/-- what a body that may throw knows: texts, statics, no stack traces, no handlers -/
def hx_C (l : Launch) (s : State) (c : Code) (A : Nat → Prop) (sa : Nat → Nat) : Prop := l.stackTraces = false ∧ hx_N sa s ∧ hx_Z A s s.heap ∧ ∀ x ∈ c.exceptionTable.toList, False
theorem hx_wIAE : ∀ w ∈ (vx_atS RX8 48 hx_IAE hx_up).filter goodWord, w ∈ hw_T := fun w h => List.mem_filter.mpr ⟨(by decide +kernel : ∀ w ∈ (vx_atS RX8 48 hx_IAE hx_up).filter goodWord, w ∈ lw_tbl) w h, (List.mem_filter.mp h).2⟩
theorem hx_bIAE : ∀ w ∈ (vx_atS RX8 48 hx_IAE hx_up).filter (fun w => !goodWord w), w ∈ [Cond.castable hx_IAE hx_IAE, .declares (Bundle.initS "java/lang/RuntimeException"), .declares (Bundle.initS "java/lang/Exception"), .declares (Bundle.initS "java/lang/Throwable")] := by decide +kernel
theorem hx_atIAE {y : MethodName} {b : ByteArray} {n : Nat} {r : Option FieldType} {args : Array Value} {s : State} {sa : Nat → Nat} (hts : ∀ w ∈ hw_W y b n r, w.before args s = true) (hN : hx_N sa s) : ∀ w ∈ vx_atS RX8 48 hx_IAE hx_up, w.before args s = true := vx_hat (fun w h => hts w (hw_c (hx_wIAE w h))) hx_bIAE (vx_c (va_Nw.use rfl (hN.2.1 hx_IAE (by decide +kernel))) (vx_c (va_Nw.use rfl (hN.2.2.2 _ (by decide +kernel))) (vx_c (va_Nw.use rfl (hN.2.2.2 _ (by decide +kernel))) (vx_c (va_Nw.use rfl (hN.2.2.2 _ (by decide +kernel))) vx_n))))
theorem hx_wISE : ∀ w ∈ (vx_atS RX8 59 hx_ISE hx_up).filter goodWord, w ∈ hw_T := fun w h => List.mem_filter.mpr ⟨(by decide +kernel : ∀ w ∈ (vx_atS RX8 59 hx_ISE hx_up).filter goodWord, w ∈ lw_tbl) w h, (List.mem_filter.mp h).2⟩
theorem hx_bISE : ∀ w ∈ (vx_atS RX8 59 hx_ISE hx_up).filter (fun w => !goodWord w), w ∈ [Cond.castable hx_ISE hx_ISE, .declares (Bundle.initS "java/lang/RuntimeException"), .declares (Bundle.initS "java/lang/Exception"), .declares (Bundle.initS "java/lang/Throwable")] := by decide +kernel
theorem hx_atISE {y : MethodName} {b : ByteArray} {n : Nat} {r : Option FieldType} {args : Array Value} {s : State} {sa : Nat → Nat} (hts : ∀ w ∈ hw_W y b n r, w.before args s = true) (hN : hx_N sa s) : ∀ w ∈ vx_atS RX8 59 hx_ISE hx_up, w.before args s = true := vx_hat (fun w h => hts w (hw_c (hx_wISE w h))) hx_bISE (vx_c (va_Nw.use rfl (hN.2.1 hx_ISE (by decide +kernel))) (vx_c (va_Nw.use rfl (hN.2.2.2 _ (by decide +kernel))) (vx_c (va_Nw.use rfl (hN.2.2.2 _ (by decide +kernel))) (vx_c (va_Nw.use rfl (hN.2.2.2 _ (by decide +kernel))) vx_n))))
theorem hx_wIOE : ∀ w ∈ (vx_atS RX8 170 hx_IOE hx_up).filter goodWord, w ∈ hw_T := fun w h => List.mem_filter.mpr ⟨(by decide +kernel : ∀ w ∈ (vx_atS RX8 170 hx_IOE hx_up).filter goodWord, w ∈ lw_tbl) w h, (List.mem_filter.mp h).2⟩
theorem hx_bIOE : ∀ w ∈ (vx_atS RX8 170 hx_IOE hx_up).filter (fun w => !goodWord w), w ∈ [Cond.castable hx_IOE hx_IOE, .declares (Bundle.initS "java/lang/RuntimeException"), .declares (Bundle.initS "java/lang/Exception"), .declares (Bundle.initS "java/lang/Throwable")] := by decide +kernel
theorem hx_atIOE {y : MethodName} {b : ByteArray} {n : Nat} {r : Option FieldType} {args : Array Value} {s : State} {sa : Nat → Nat} (hts : ∀ w ∈ hw_W y b n r, w.before args s = true) (hN : hx_N sa s) : ∀ w ∈ vx_atS RX8 170 hx_IOE hx_up, w.before args s = true := vx_hat (fun w h => hts w (hw_c (hx_wIOE w h))) hx_bIOE (vx_c (va_Nw.use rfl (hN.2.1 hx_IOE (by decide +kernel))) (vx_c (va_Nw.use rfl (hN.2.2.2 _ (by decide +kernel))) (vx_c (va_Nw.use rfl (hN.2.2.2 _ (by decide +kernel))) (vx_c (va_Nw.use rfl (hN.2.2.2 _ (by decide +kernel))) vx_n))))
theorem hx_fitIAE : Bundle.fit hx_IAE = true := by decide +kernel
theorem hx_otIAE : ∀ w ∈ Cond.initialized hx_IAE :: vx_atS RX8 48 hx_IAE hx_up, vx_ot w = true := by decide +kernel
theorem hx_fitISE : Bundle.fit hx_ISE = true := by decide +kernel
theorem hx_otISE : ∀ w ∈ Cond.initialized hx_ISE :: vx_atS RX8 59 hx_ISE hx_up, vx_ot w = true := by decide +kernel
theorem hx_fitIOE : Bundle.fit hx_IOE = true := by decide +kernel
theorem hx_otIOE : ∀ w ∈ Cond.initialized hx_IOE :: vx_atS RX8 170 hx_IOE hx_up, vx_ot w = true := by decide +kernel
theorem hx_fitup : ∀ n ∈ hx_up, Bundle.fit n = true := by decide +kernel
theorem hx_thr_IAE {p : Program} {l : Launch} {e : Env} {R : Room} {s : State} {m : MethodId} {args : Array Value} {below : List Frame} {meth : Method} {c : Code} {cc : ByteArray} {nL : Nat} {D : va_G} {dA : Nat → ClassId} {A : Nat → Prop} {sa : Nat → Nat} {y : MethodName} {by0 : ByteArray} {n0 : Nat} {r0 ret : Option FieldType} {ce sl mc ms : Nat} {ws ws0 junk : va_W} {lv : List (Nat × Value)} {rest : List Value} {pc ik is : Nat} {text : String} {PX : String → Prop} {Qc : Array Value → State → Outcome → State → Prop}
    (C : hv_C p s m args c cc nL D dA A s.heap RX8 (hw_W y by0 n0 r0)) (X : hx_C l s c A sa) (M : meth.sig.returnType = ret ∧ meth.locks = false ∧ meth.name = y.name)
    (d0 : decode cc pc = .ok (.new ik, 3)) (d3 : decode cc (pc + 3) = .ok (.dup, 1)) (d4 : decode cc (pc + 4) = .ok (.ldc is, 2)) (d6 : decode cc (pc + 6) = .ok (.invokespecial 48, 3)) (d9 : decode cc (pc + 9) = .ok (.athrow, 1))
    (hk : Cond.classLink RX8 ik hx_IAE ∈ hw_T) (hini : Cond.initialized hx_IAE ∈ hw_T) (hstr : (is, text) ∈ hx_S) (hs : ws.Perm (ws0 ++ junk)) (hP : PX hx_IAE) (hF : 5 < R.frames) (hLo : (rest.map fun v => v.category).sum + 82 ≤ R.locals) (hRc : ce + 1 ≤ R.cells) (hRs : sl + 6 ≤ R.slots) (hc : ce + 1 ≤ mc) (hl : sl + 6 ≤ ms) :
    hv_V p l e R s m args below meth c nL D A s.heap (vx_MQ below Qc (hx_X D ws0 PX A) args s mc ms A) ce sl ws lv rest pc := by
  intro H locs la hPw hD hS hlv
  refine vx_throwS C.1.1 C.1.2.1 X.1 C.1.2.2.2.1 hx_fitIAE hx_fitup (C.1.2.2.2.2 _ (hw_c hk)) (C.1.2.2.2.2 _ (hw_c hini)) (X.2.1.1 _ hstr) (hx_atIAE C.1.2.2.2.2 X.2.1) ?_ X.2.2.1.1 X.2.2.1.2 hS (by rw [C.1.2.2.1]; exact hlv.1) d0 d3 d4 d6 d9 (fun x hx => (X.2.2.2 x hx).elim) hF hLo hRc hRs M.2.1 ?_ hS.2.2 hc hl
  · intro w hw
    rcases List.mem_cons.mp hw with e | e
    · rw [e]; rfl
    · exact hx_otIAE w e
  · intro t _ hz hk2
    have hP0 := hv_Pl (hv_Pp hs hPw)
    refine ⟨(), trivial, ⟨hP, hv_Pm.mpr (fun q hq => ?_), hv_Dl (hv_Dp hs hD)⟩, ⟨Nat.le_trans hS.1 hz, fun q h1 h2 => ?_⟩⟩
    · have h9 := hv_Pm.mp hP0 q hq
      exact h9.kept (hk2 q.1 h9.lt)
    · rw [hk2 q (Nat.lt_of_lt_of_le h1 hS.1)]
      exact hS.2.1 q h1 h2
theorem hx_thrW_IAE {p : Program} {l : Launch} {e : Env} {R : Room} {s : State} {m : MethodId} {args : Array Value} {below : List Frame} {meth : Method} {c : Code} {cc : ByteArray} {nL : Nat} {D : va_G} {dA : Nat → ClassId} {A : Nat → Prop} {sa : Nat → Nat} {y : MethodName} {by0 : ByteArray} {n0 : Nat} {r0 ret : Option FieldType} {ce sl mc ms : Nat} {ws ws0 junk : va_W} {lv : List (Nat × Value)} {rest : List Value} {pc ik is : Nat} {text : String} {PX : String → Prop} {Qc : Array Value → State → Outcome → State → Prop}
    (C : hv_C p s m args c cc nL D dA A s.heap RX8 (hw_W y by0 n0 r0)) (X : hx_C l s c A sa) (M : meth.sig.returnType = ret ∧ meth.locks = false ∧ meth.name = y.name)
    (d0 : decode cc pc = .ok (.new ik, 3)) (d3 : decode cc (pc + 3) = .ok (.dup, 1)) (d4 : decode cc (pc + 4) = .ok (.ldc_w is, 3)) (d6 : decode cc (pc + 7) = .ok (.invokespecial 48, 3)) (d9 : decode cc (pc + 10) = .ok (.athrow, 1))
    (hk : Cond.classLink RX8 ik hx_IAE ∈ hw_T) (hini : Cond.initialized hx_IAE ∈ hw_T) (hstr : (is, text) ∈ hx_S) (hs : ws.Perm (ws0 ++ junk)) (hP : PX hx_IAE) (hF : 5 < R.frames) (hLo : (rest.map fun v => v.category).sum + 82 ≤ R.locals) (hRc : ce + 1 ≤ R.cells) (hRs : sl + 6 ≤ R.slots) (hc : ce + 1 ≤ mc) (hl : sl + 6 ≤ ms) :
    hv_V p l e R s m args below meth c nL D A s.heap (vx_MQ below Qc (hx_X D ws0 PX A) args s mc ms A) ce sl ws lv rest pc := by
  intro H locs la hPw hD hS hlv
  refine vx_throwSW C.1.1 C.1.2.1 X.1 C.1.2.2.2.1 hx_fitIAE hx_fitup (C.1.2.2.2.2 _ (hw_c hk)) (C.1.2.2.2.2 _ (hw_c hini)) (X.2.1.1 _ hstr) (hx_atIAE C.1.2.2.2.2 X.2.1) ?_ X.2.2.1.1 X.2.2.1.2 hS (by rw [C.1.2.2.1]; exact hlv.1) d0 d3 d4 d6 d9 (fun x hx => (X.2.2.2 x hx).elim) hF hLo hRc hRs M.2.1 ?_ hS.2.2 hc hl
  · intro w hw
    rcases List.mem_cons.mp hw with e | e
    · rw [e]; rfl
    · exact hx_otIAE w e
  · intro t _ hz hk2
    have hP0 := hv_Pl (hv_Pp hs hPw)
    refine ⟨(), trivial, ⟨hP, hv_Pm.mpr (fun q hq => ?_), hv_Dl (hv_Dp hs hD)⟩, ⟨Nat.le_trans hS.1 hz, fun q h1 h2 => ?_⟩⟩
    · have h9 := hv_Pm.mp hP0 q hq
      exact h9.kept (hk2 q.1 h9.lt)
    · rw [hk2 q (Nat.lt_of_lt_of_le h1 hS.1)]
      exact hS.2.1 q h1 h2
theorem hx_thr_ISE {p : Program} {l : Launch} {e : Env} {R : Room} {s : State} {m : MethodId} {args : Array Value} {below : List Frame} {meth : Method} {c : Code} {cc : ByteArray} {nL : Nat} {D : va_G} {dA : Nat → ClassId} {A : Nat → Prop} {sa : Nat → Nat} {y : MethodName} {by0 : ByteArray} {n0 : Nat} {r0 ret : Option FieldType} {ce sl mc ms : Nat} {ws ws0 junk : va_W} {lv : List (Nat × Value)} {rest : List Value} {pc ik is : Nat} {text : String} {PX : String → Prop} {Qc : Array Value → State → Outcome → State → Prop}
    (C : hv_C p s m args c cc nL D dA A s.heap RX8 (hw_W y by0 n0 r0)) (X : hx_C l s c A sa) (M : meth.sig.returnType = ret ∧ meth.locks = false ∧ meth.name = y.name)
    (d0 : decode cc pc = .ok (.new ik, 3)) (d3 : decode cc (pc + 3) = .ok (.dup, 1)) (d4 : decode cc (pc + 4) = .ok (.ldc is, 2)) (d6 : decode cc (pc + 6) = .ok (.invokespecial 59, 3)) (d9 : decode cc (pc + 9) = .ok (.athrow, 1))
    (hk : Cond.classLink RX8 ik hx_ISE ∈ hw_T) (hini : Cond.initialized hx_ISE ∈ hw_T) (hstr : (is, text) ∈ hx_S) (hs : ws.Perm (ws0 ++ junk)) (hP : PX hx_ISE) (hF : 5 < R.frames) (hLo : (rest.map fun v => v.category).sum + 82 ≤ R.locals) (hRc : ce + 1 ≤ R.cells) (hRs : sl + 6 ≤ R.slots) (hc : ce + 1 ≤ mc) (hl : sl + 6 ≤ ms) :
    hv_V p l e R s m args below meth c nL D A s.heap (vx_MQ below Qc (hx_X D ws0 PX A) args s mc ms A) ce sl ws lv rest pc := by
  intro H locs la hPw hD hS hlv
  refine vx_throwS C.1.1 C.1.2.1 X.1 C.1.2.2.2.1 hx_fitISE hx_fitup (C.1.2.2.2.2 _ (hw_c hk)) (C.1.2.2.2.2 _ (hw_c hini)) (X.2.1.1 _ hstr) (hx_atISE C.1.2.2.2.2 X.2.1) ?_ X.2.2.1.1 X.2.2.1.2 hS (by rw [C.1.2.2.1]; exact hlv.1) d0 d3 d4 d6 d9 (fun x hx => (X.2.2.2 x hx).elim) hF hLo hRc hRs M.2.1 ?_ hS.2.2 hc hl
  · intro w hw
    rcases List.mem_cons.mp hw with e | e
    · rw [e]; rfl
    · exact hx_otISE w e
  · intro t _ hz hk2
    have hP0 := hv_Pl (hv_Pp hs hPw)
    refine ⟨(), trivial, ⟨hP, hv_Pm.mpr (fun q hq => ?_), hv_Dl (hv_Dp hs hD)⟩, ⟨Nat.le_trans hS.1 hz, fun q h1 h2 => ?_⟩⟩
    · have h9 := hv_Pm.mp hP0 q hq
      exact h9.kept (hk2 q.1 h9.lt)
    · rw [hk2 q (Nat.lt_of_lt_of_le h1 hS.1)]
      exact hS.2.1 q h1 h2
theorem hx_thrW_ISE {p : Program} {l : Launch} {e : Env} {R : Room} {s : State} {m : MethodId} {args : Array Value} {below : List Frame} {meth : Method} {c : Code} {cc : ByteArray} {nL : Nat} {D : va_G} {dA : Nat → ClassId} {A : Nat → Prop} {sa : Nat → Nat} {y : MethodName} {by0 : ByteArray} {n0 : Nat} {r0 ret : Option FieldType} {ce sl mc ms : Nat} {ws ws0 junk : va_W} {lv : List (Nat × Value)} {rest : List Value} {pc ik is : Nat} {text : String} {PX : String → Prop} {Qc : Array Value → State → Outcome → State → Prop}
    (C : hv_C p s m args c cc nL D dA A s.heap RX8 (hw_W y by0 n0 r0)) (X : hx_C l s c A sa) (M : meth.sig.returnType = ret ∧ meth.locks = false ∧ meth.name = y.name)
    (d0 : decode cc pc = .ok (.new ik, 3)) (d3 : decode cc (pc + 3) = .ok (.dup, 1)) (d4 : decode cc (pc + 4) = .ok (.ldc_w is, 3)) (d6 : decode cc (pc + 7) = .ok (.invokespecial 59, 3)) (d9 : decode cc (pc + 10) = .ok (.athrow, 1))
    (hk : Cond.classLink RX8 ik hx_ISE ∈ hw_T) (hini : Cond.initialized hx_ISE ∈ hw_T) (hstr : (is, text) ∈ hx_S) (hs : ws.Perm (ws0 ++ junk)) (hP : PX hx_ISE) (hF : 5 < R.frames) (hLo : (rest.map fun v => v.category).sum + 82 ≤ R.locals) (hRc : ce + 1 ≤ R.cells) (hRs : sl + 6 ≤ R.slots) (hc : ce + 1 ≤ mc) (hl : sl + 6 ≤ ms) :
    hv_V p l e R s m args below meth c nL D A s.heap (vx_MQ below Qc (hx_X D ws0 PX A) args s mc ms A) ce sl ws lv rest pc := by
  intro H locs la hPw hD hS hlv
  refine vx_throwSW C.1.1 C.1.2.1 X.1 C.1.2.2.2.1 hx_fitISE hx_fitup (C.1.2.2.2.2 _ (hw_c hk)) (C.1.2.2.2.2 _ (hw_c hini)) (X.2.1.1 _ hstr) (hx_atISE C.1.2.2.2.2 X.2.1) ?_ X.2.2.1.1 X.2.2.1.2 hS (by rw [C.1.2.2.1]; exact hlv.1) d0 d3 d4 d6 d9 (fun x hx => (X.2.2.2 x hx).elim) hF hLo hRc hRs M.2.1 ?_ hS.2.2 hc hl
  · intro w hw
    rcases List.mem_cons.mp hw with e | e
    · rw [e]; rfl
    · exact hx_otISE w e
  · intro t _ hz hk2
    have hP0 := hv_Pl (hv_Pp hs hPw)
    refine ⟨(), trivial, ⟨hP, hv_Pm.mpr (fun q hq => ?_), hv_Dl (hv_Dp hs hD)⟩, ⟨Nat.le_trans hS.1 hz, fun q h1 h2 => ?_⟩⟩
    · have h9 := hv_Pm.mp hP0 q hq
      exact h9.kept (hk2 q.1 h9.lt)
    · rw [hk2 q (Nat.lt_of_lt_of_le h1 hS.1)]
      exact hS.2.1 q h1 h2
theorem hx_thr_IOE {p : Program} {l : Launch} {e : Env} {R : Room} {s : State} {m : MethodId} {args : Array Value} {below : List Frame} {meth : Method} {c : Code} {cc : ByteArray} {nL : Nat} {D : va_G} {dA : Nat → ClassId} {A : Nat → Prop} {sa : Nat → Nat} {y : MethodName} {by0 : ByteArray} {n0 : Nat} {r0 ret : Option FieldType} {ce sl mc ms : Nat} {ws ws0 junk : va_W} {lv : List (Nat × Value)} {rest : List Value} {pc ik is : Nat} {text : String} {PX : String → Prop} {Qc : Array Value → State → Outcome → State → Prop}
    (C : hv_C p s m args c cc nL D dA A s.heap RX8 (hw_W y by0 n0 r0)) (X : hx_C l s c A sa) (M : meth.sig.returnType = ret ∧ meth.locks = false ∧ meth.name = y.name)
    (d0 : decode cc pc = .ok (.new ik, 3)) (d3 : decode cc (pc + 3) = .ok (.dup, 1)) (d4 : decode cc (pc + 4) = .ok (.ldc is, 2)) (d6 : decode cc (pc + 6) = .ok (.invokespecial 170, 3)) (d9 : decode cc (pc + 9) = .ok (.athrow, 1))
    (hk : Cond.classLink RX8 ik hx_IOE ∈ hw_T) (hini : Cond.initialized hx_IOE ∈ hw_T) (hstr : (is, text) ∈ hx_S) (hs : ws.Perm (ws0 ++ junk)) (hP : PX hx_IOE) (hF : 5 < R.frames) (hLo : (rest.map fun v => v.category).sum + 82 ≤ R.locals) (hRc : ce + 1 ≤ R.cells) (hRs : sl + 6 ≤ R.slots) (hc : ce + 1 ≤ mc) (hl : sl + 6 ≤ ms) :
    hv_V p l e R s m args below meth c nL D A s.heap (vx_MQ below Qc (hx_X D ws0 PX A) args s mc ms A) ce sl ws lv rest pc := by
  intro H locs la hPw hD hS hlv
  refine vx_throwS C.1.1 C.1.2.1 X.1 C.1.2.2.2.1 hx_fitIOE hx_fitup (C.1.2.2.2.2 _ (hw_c hk)) (C.1.2.2.2.2 _ (hw_c hini)) (X.2.1.1 _ hstr) (hx_atIOE C.1.2.2.2.2 X.2.1) ?_ X.2.2.1.1 X.2.2.1.2 hS (by rw [C.1.2.2.1]; exact hlv.1) d0 d3 d4 d6 d9 (fun x hx => (X.2.2.2 x hx).elim) hF hLo hRc hRs M.2.1 ?_ hS.2.2 hc hl
  · intro w hw
    rcases List.mem_cons.mp hw with e | e
    · rw [e]; rfl
    · exact hx_otIOE w e
  · intro t _ hz hk2
    have hP0 := hv_Pl (hv_Pp hs hPw)
    refine ⟨(), trivial, ⟨hP, hv_Pm.mpr (fun q hq => ?_), hv_Dl (hv_Dp hs hD)⟩, ⟨Nat.le_trans hS.1 hz, fun q h1 h2 => ?_⟩⟩
    · have h9 := hv_Pm.mp hP0 q hq
      exact h9.kept (hk2 q.1 h9.lt)
    · rw [hk2 q (Nat.lt_of_lt_of_le h1 hS.1)]
      exact hS.2.1 q h1 h2
theorem hx_thrW_IOE {p : Program} {l : Launch} {e : Env} {R : Room} {s : State} {m : MethodId} {args : Array Value} {below : List Frame} {meth : Method} {c : Code} {cc : ByteArray} {nL : Nat} {D : va_G} {dA : Nat → ClassId} {A : Nat → Prop} {sa : Nat → Nat} {y : MethodName} {by0 : ByteArray} {n0 : Nat} {r0 ret : Option FieldType} {ce sl mc ms : Nat} {ws ws0 junk : va_W} {lv : List (Nat × Value)} {rest : List Value} {pc ik is : Nat} {text : String} {PX : String → Prop} {Qc : Array Value → State → Outcome → State → Prop}
    (C : hv_C p s m args c cc nL D dA A s.heap RX8 (hw_W y by0 n0 r0)) (X : hx_C l s c A sa) (M : meth.sig.returnType = ret ∧ meth.locks = false ∧ meth.name = y.name)
    (d0 : decode cc pc = .ok (.new ik, 3)) (d3 : decode cc (pc + 3) = .ok (.dup, 1)) (d4 : decode cc (pc + 4) = .ok (.ldc_w is, 3)) (d6 : decode cc (pc + 7) = .ok (.invokespecial 170, 3)) (d9 : decode cc (pc + 10) = .ok (.athrow, 1))
    (hk : Cond.classLink RX8 ik hx_IOE ∈ hw_T) (hini : Cond.initialized hx_IOE ∈ hw_T) (hstr : (is, text) ∈ hx_S) (hs : ws.Perm (ws0 ++ junk)) (hP : PX hx_IOE) (hF : 5 < R.frames) (hLo : (rest.map fun v => v.category).sum + 82 ≤ R.locals) (hRc : ce + 1 ≤ R.cells) (hRs : sl + 6 ≤ R.slots) (hc : ce + 1 ≤ mc) (hl : sl + 6 ≤ ms) :
    hv_V p l e R s m args below meth c nL D A s.heap (vx_MQ below Qc (hx_X D ws0 PX A) args s mc ms A) ce sl ws lv rest pc := by
  intro H locs la hPw hD hS hlv
  refine vx_throwSW C.1.1 C.1.2.1 X.1 C.1.2.2.2.1 hx_fitIOE hx_fitup (C.1.2.2.2.2 _ (hw_c hk)) (C.1.2.2.2.2 _ (hw_c hini)) (X.2.1.1 _ hstr) (hx_atIOE C.1.2.2.2.2 X.2.1) ?_ X.2.2.1.1 X.2.2.1.2 hS (by rw [C.1.2.2.1]; exact hlv.1) d0 d3 d4 d6 d9 (fun x hx => (X.2.2.2 x hx).elim) hF hLo hRc hRs M.2.1 ?_ hS.2.2 hc hl
  · intro w hw
    rcases List.mem_cons.mp hw with e | e
    · rw [e]; rfl
    · exact hx_otIOE w e
  · intro t _ hz hk2
    have hP0 := hv_Pl (hv_Pp hs hPw)
    refine ⟨(), trivial, ⟨hP, hv_Pm.mpr (fun q hq => ?_), hv_Dl (hv_Dp hs hD)⟩, ⟨Nat.le_trans hS.1 hz, fun q h1 h2 => ?_⟩⟩
    · have h9 := hv_Pm.mp hP0 q hq
      exact h9.kept (hk2 q.1 h9.lt)
    · rw [hk2 q (Nat.lt_of_lt_of_le h1 hS.1)]
      exact hS.2.1 q h1 h2
section HX
variable {p : Program} {l : Launch} {e : Env} {R : Room} {s : State} {m : MethodId} {args : Array Value} {below : List Frame} {meth : Method} {c : Code} {Q : State → Prop} {cc : ByteArray} {nL : Nat} {D : va_G} {dA : Nat → ClassId} {A : Nat → Prop} {H0 : Heap} {own : String} {Ts : List Cond} {ce sl : Nat} {ws : va_W} {lv : List (Nat × Value)} {st : List Value} {pc : Nat} {sa : Nat → Nat}
variable {y : MethodName} {bytes : ByteArray} {maxL index n mc ms d : Nat} {ret : Option FieldType} {wd : List Cond} {Cn : String} {b : Nat} {As rest : List Value} {wc wr : va_W} {S : Type} {rv : S → Option Value} {post : S → Prop} {w1 : S → va_W} {PX : String → Prop}
theorem hx_ret {Qc : Array Value → State → Outcome → State → Prop} {XC : String → State → State → Prop} {free : Addr → Prop} (K : hv_V p l e R s m args below meth c nL D A H0 (MQ below Qc args s mc ms free) ce sl ws lv st pc) : hv_V p l e R s m args below meth c nL D A H0 (vx_MQ below Qc XC args s mc ms free) ce sl ws lv st pc :=
  fun H locs la hP hD hS hl => vx_ret (K H locs la hP hD hS hl)
/-- a body that may throw gives its contract -/
theorem hx_of {cc : ByteArray} {ws' : List Cond} {av : List Value} {ws : va_W} (hst : l.stackTraces = false) (ho : y.cls = own) (hy : plainName y.cls = true) (hw : wd = Cond.code y cc maxL ret :: ws') (ha : (lg_sl av).length ≤ maxL)
    (body : ∀ (p : Program) (e : Env) (s : State) (m : MethodId) (args : Array Value) (below : List Frame) (meth : Method) (c : Code), hv_C p s m args c cc maxL D dA (va_A ws s.heap.size) s.heap own wd → hx_C l s c (va_A ws s.heap.size) sa → (meth.sig.returnType = ret ∧ meth.locks = false ∧ meth.name = y.name) →
      hv_V p l e (hv_rm d mc ms) s m args below meth c maxL D (va_A ws s.heap.size) s.heap (vx_MQ below (hv_Q D rv post w1 (va_A ws s.heap.size)) (hx_X D ws PX (va_A ws s.heap.size)) args s mc ms (va_A ws s.heap.size)) 0 0 ws (lv_args 0 av) [] 0) : hx_Ct l y wd d D dA sa av ws mc ms rv post w1 PX := by
  intro sz
  refine vx_ofW (cc := cc) (maxL := maxL) (ret := ret) hy hw ?_
  intro p e s m args below meth c s₁ B hml hT hv
  obtain ⟨rfl, ⟨rfl, hP, hK, hD0, hN⟩, hX, hZ⟩ := hv
  have hts := atoms_spec (ws := wd) B.pre
  have hown : s.vm.findClass own = some m.cls := ho ▸ findClass_of_methodNamed B.named
  have hl := lv_entry av (n := maxL) ha
  rw [lg_entry_eq]
  exact body p e s m av.toArray below meth c ⟨⟨B.exec, B.bytes, hml, hown, hts⟩, hK, fun q h => Or.inr h, hN⟩ ⟨hst, hX, hZ, hT⟩ ⟨B.returns, B.notSynchronized, (name_of_methodNamed B.named B.method).1⟩ s.heap [] _ hP hD0.self va_S.rf hl
/-- a call of a method that may throw, out of a method that lets it through; nothing of the world has changed so far -/
theorem hx_callV {y0 : MethodName} {ws0 junk : va_W} {PX0 : String → Prop} {Qc : Array Value → State → Outcome → State → Prop} {mc0 ms0 : Nat} (C : hv_C p s m args c cc nL D dA A s.heap own Ts) (X : hx_C l s c A sa) (M : meth.sig.returnType = ret ∧ meth.locks = false ∧ meth.name = y0.name) (hM : hx_Ct l y wd d D dA sa (.ref b :: As) wc mc ms rv post w1 PX) {ret1 : Option FieldType} (cw : CallW R s args own Cn index y bytes maxL ret1 wd (hv_rm d mc ms) mc ms n) (hs : ws.Perm (wc ++ wr)) (hn : As.length = n)
    (q0 ci : Nat) {fs : List Value} {T : u_T} {N : Nat} (hq : wc[q0]? = some (b, .inr (ci, fs))) (hc : vwCl[ci]? = some (Cn, T, N)) (hst : st = As.reverse ++ .ref b :: rest) (hroom : (rest.map fun v => v.category).sum ≤ 8)
    (hdg : decode cc pc = .ok (.invokevirtual index, 3)) (hf : ce + mc ≤ R.cells ∧ sl + ms ≤ R.slots) (hws : ws.Perm (ws0 ++ junk)) (hX : ∀ E, PX E → PX0 E) (hc0 : ce + mc ≤ mc0) (hs0 : sl + ms ≤ ms0)
    (K : ∀ u : S, post u → hv_V p l e R s m args below meth c nL D A s.heap (vx_MQ below Qc (hx_X D ws0 PX0 A) args s mc0 ms0 A) (ce + mc) (sl + ms) (w1 u ++ wr) lv ((rv u).toList ++ rest) (pc + 3)) :
    hv_V p l e R s m args below meth c nL D A s.heap (vx_MQ below Qc (hx_X D ws0 PX0 A) args s mc0 ms0 A) ce sl ws lv st pc := by
  intro H locs la hP hD hS hl
  have hPc := hv_Pl (hv_Pp hs hP)
  have hF : ∀ q, va_A wc H.size q → A q := by
    intro q h
    rcases h with ⟨k, e, h⟩ | h
    · exact (hv_Dm.mp (hv_Dp hs hD)).2 (q, e) (List.mem_append_left _ (List.mem_of_getElem? h))
    · exact C.2.2.1 q (Nat.le_trans hS.1 h)
  have hZ : ∀ U : State, U.heap = H → s.WarmedH U.vm → hx_Z (va_A wc H.size) U U.heap := fun U hU hW => by
    have hk : ∀ a : Nat, a < s.heap.size → ¬ A a → H[a]? = s.heap[a]? := fun a h1 h2 => hS.2.1 a h1 h2
    rw [hU]
    exact ⟨vx_Zq.moved hW.alike ((vx_Zq.kept X.2.2.1.1 hk).narrow hF), vx_Zq.moved hW.alike ((vx_Zq.kept X.2.2.1.2 hk).narrow hF)⟩
  intro T1 hT X1
  have hr : vx_Run p l e R s m args below meth c H locs ce sl mc ms (F0 m pc la st) rest (hv_Q D rv post w1 (va_A wc H.size) (Value.ref b :: As).toArray) (hx_X D wc PX (va_A wc H.size)) (va_A wc H.size) := vx_runV (As := As) (rest := rest) C.1 (hM H.size) cw ⟨hx_blind, va_recv C.2.1 hPc (ci := ci) (q0 := q0) hc hq, fun U hU hW => ⟨rfl, ⟨by rw [hU], by rw [hU]; exact hPc, va_K.moved hW.alike C.2.1, (hv_Dl (hv_Dp hs hD)).weaken (fun _ _ _ _ => trivial), C.2.2.2.warm hW⟩, X.2.1.warm hW, hZ U hU hW⟩⟩ rfl hn hl.1 hst (lv_room hroom) hdg hf
  rcases hr T1 hT X1 with ⟨v, st₀, t, T', L, h0, X', hL, e1, e2, ⟨⟨u, hv, hp, hP1, hD1⟩, hF2⟩, stp⟩ | ⟨q, st₀, t, T', L, E, ce9, h0, X', hL, e1, e2, ⟨u, hp, hb, hF2⟩, hce, hcv, hcl, stp⟩
  · cases hv
    obtain ⟨k1, k2, k3⟩ := vx_keep h0 e1 hS (fun q _ h => hF q h) hF hL hF2
    obtain ⟨hP2, hD2⟩ := hv_join hs hP hD (fun q h1 h2 => k2 q h1 h2) hF (by rw [e1]; exact hP1) hD1
    obtain ⟨t2, a1, b1⟩ := K u hp T'.heap (locs ++ L) la hP2 hD2 k3 hl T' rfl X'
    exact ⟨t2, stp t2 a1, b1⟩
  · obtain ⟨k1, k2, k3⟩ := vx_keep h0 e1 hS (fun q _ h => hF q h) hF hL hF2
    obtain ⟨hPX, hP1, hD1⟩ := hb
    obtain ⟨hP2, hD2⟩ := hv_join hs hP hD (fun q h1 h2 => k2 q h1 h2) hF (by rw [e1]; exact hP1) hD1
    have hP3 := hv_Pl (hv_Pp (hs.symm.trans hws) hP2)
    have hD3 := hv_Dl (hv_Dp (hs.symm.trans hws) hD2)
    obtain ⟨t2, a1, b1⟩ := vx_out (pc := pc) (ls := la) (rest := rest) (fun x hx => (X.2.2.2 x hx).elim) M.2.1 (by rw [e1]; exact hce) hcv hcl (XC := hx_X D ws0 PX0 A) (Qc := Qc) (fun t3 ht3 _ => ⟨(), trivial, ⟨hX E hPX, by rw [ht3]; exact hP3, hD3⟩, k3.F ht3⟩) k3.2.2 hc0 hs0 T' rfl X'
    exact ⟨t2, stp.trans a1, b1⟩
end HX
