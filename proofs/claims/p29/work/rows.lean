section
-- ===== PART A: goes FIRST, ahead of the names: the tables' words, and 'selects' of the private methods out of them =====
/-- a private method of a class that the tables say can be made, by its rows of tables_1 -/
def lw_okq (q : MethodName × Nat) : Prop := (q.1.cls ≠ "java/lang/invoke/MethodHandle" ∧ q.1.cls ≠ "java/lang/invoke/VarHandle") ∧ Cond.instantiable q.1.cls q.2 ∈ tables_1 ∧ Cond.privateMethod q.1 ∈ tables_1 ∧ Cond.instanceMethod q.1 ∈ tables_1
theorem lw_p0 : lw_okq (⟨"java/lang/Throwable", "fillInStackTrace", "(I)Ljava/lang/Throwable;"⟩, 6) := ⟨⟨by decide +kernel, by decide +kernel⟩, List.mem_of_getElem? (i := 224) (by decide +kernel), List.mem_of_getElem? (i := 222) (by decide +kernel), List.mem_of_getElem? (i := 223) (by decide +kernel)⟩
theorem lw_p1 : lw_okq (⟨"HedgeClips$Text", "behindStems", "()I"⟩, 2) := ⟨⟨by decide +kernel, by decide +kernel⟩, List.mem_of_getElem? (i := 120) (by decide +kernel), List.mem_of_getElem? (i := 291) (by decide +kernel), List.mem_of_getElem? (i := 292) (by decide +kernel)⟩
theorem lw_p2 : lw_okq (⟨"HedgeClips$Text", "faultInCommand", "(I)I"⟩, 2) := ⟨⟨by decide +kernel, by decide +kernel⟩, List.mem_of_getElem? (i := 120) (by decide +kernel), List.mem_of_getElem? (i := 298) (by decide +kernel), List.mem_of_getElem? (i := 299) (by decide +kernel)⟩
theorem lw_p3 : lw_okq (⟨"HedgeClips", "obeyCommand", "(I)Z"⟩, 6) := ⟨⟨by decide +kernel, by decide +kernel⟩, List.mem_of_getElem? (i := 19) (by decide +kernel), List.mem_of_getElem? (i := 334) (by decide +kernel), List.mem_of_getElem? (i := 335) (by decide +kernel)⟩
theorem lw_p4 : lw_okq (⟨"HedgeClips", "triesBestClip", "(LHedgeClips$Garden;)Z"⟩, 6) := ⟨⟨by decide +kernel, by decide +kernel⟩, List.mem_of_getElem? (i := 19) (by decide +kernel), List.mem_of_getElem? (i := 426) (by decide +kernel), List.mem_of_getElem? (i := 427) (by decide +kernel)⟩
theorem lw_p5 : lw_okq (⟨"HedgeClips$Outlook", "worthAt", "(II)I"⟩, 5) := ⟨⟨by decide +kernel, by decide +kernel⟩, List.mem_of_getElem? (i := 433) (by decide +kernel), List.mem_of_getElem? (i := 468) (by decide +kernel), List.mem_of_getElem? (i := 469) (by decide +kernel)⟩
theorem lw_p6 : lw_okq (⟨"HedgeClips$Outlook", "gainAt", "(III)I"⟩, 5) := ⟨⟨by decide +kernel, by decide +kernel⟩, List.mem_of_getElem? (i := 433) (by decide +kernel), List.mem_of_getElem? (i := 472) (by decide +kernel), List.mem_of_getElem? (i := 473) (by decide +kernel)⟩
theorem lw_p7 : lw_okq (⟨"HedgeClips", "requireStem", "(I)V"⟩, 6) := ⟨⟨by decide +kernel, by decide +kernel⟩, List.mem_of_getElem? (i := 19) (by decide +kernel), List.mem_of_getElem? (i := 511) (by decide +kernel), List.mem_of_getElem? (i := 512) (by decide +kernel)⟩
theorem lw_p8 : lw_okq (⟨"HedgeClips", "requireClip", "(III)V"⟩, 6) := ⟨⟨by decide +kernel, by decide +kernel⟩, List.mem_of_getElem? (i := 19) (by decide +kernel), List.mem_of_getElem? (i := 589) (by decide +kernel), List.mem_of_getElem? (i := 590) (by decide +kernel)⟩
theorem lw_p9 : lw_okq (⟨"HedgeClips", "worthOf", "(LHedgeClips$Garden;I)I"⟩, 6) := ⟨⟨by decide +kernel, by decide +kernel⟩, List.mem_of_getElem? (i := 19) (by decide +kernel), List.mem_of_getElem? (i := 677) (by decide +kernel), List.mem_of_getElem? (i := 678) (by decide +kernel)⟩
theorem lw_p10 : lw_okq (⟨"HedgeClips", "obeyGroup", "(I)Z"⟩, 6) := ⟨⟨by decide +kernel, by decide +kernel⟩, List.mem_of_getElem? (i := 19) (by decide +kernel), List.mem_of_getElem? (i := 695) (by decide +kernel), List.mem_of_getElem? (i := 696) (by decide +kernel)⟩
theorem lw_p11 : lw_okq (⟨"HedgeClips", "winnerOf", "(LHedgeClips$Garden;)I"⟩, 6) := ⟨⟨by decide +kernel, by decide +kernel⟩, List.mem_of_getElem? (i := 19) (by decide +kernel), List.mem_of_getElem? (i := 699) (by decide +kernel), List.mem_of_getElem? (i := 700) (by decide +kernel)⟩
theorem lw_p12 : lw_okq (⟨"HedgeClips", "simulateTurn", "(I)V"⟩, 6) := ⟨⟨by decide +kernel, by decide +kernel⟩, List.mem_of_getElem? (i := 19) (by decide +kernel), List.mem_of_getElem? (i := 714) (by decide +kernel), List.mem_of_getElem? (i := 715) (by decide +kernel)⟩
def lw_privs_1 : List (MethodName × Nat) := [(⟨"java/lang/Throwable", "fillInStackTrace", "(I)Ljava/lang/Throwable;"⟩, 6), (⟨"HedgeClips$Text", "behindStems", "()I"⟩, 2), (⟨"HedgeClips$Text", "faultInCommand", "(I)I"⟩, 2), (⟨"HedgeClips", "obeyCommand", "(I)Z"⟩, 6), (⟨"HedgeClips", "triesBestClip", "(LHedgeClips$Garden;)Z"⟩, 6), (⟨"HedgeClips$Outlook", "worthAt", "(II)I"⟩, 5), (⟨"HedgeClips$Outlook", "gainAt", "(III)I"⟩, 5), (⟨"HedgeClips", "requireStem", "(I)V"⟩, 6), (⟨"HedgeClips", "requireClip", "(III)V"⟩, 6), (⟨"HedgeClips", "worthOf", "(LHedgeClips$Garden;I)I"⟩, 6), (⟨"HedgeClips", "obeyGroup", "(I)Z"⟩, 6), (⟨"HedgeClips", "winnerOf", "(LHedgeClips$Garden;)I"⟩, 6), (⟨"HedgeClips", "simulateTurn", "(I)V"⟩, 6)]
theorem lw_r1 : ∀ q ∈ lw_privs_1, lw_okq q := List.forall_mem_cons.mpr ⟨lw_p0, List.forall_mem_cons.mpr ⟨lw_p1, List.forall_mem_cons.mpr ⟨lw_p2, List.forall_mem_cons.mpr ⟨lw_p3, List.forall_mem_cons.mpr ⟨lw_p4, List.forall_mem_cons.mpr ⟨lw_p5, List.forall_mem_cons.mpr ⟨lw_p6, List.forall_mem_cons.mpr ⟨lw_p7, List.forall_mem_cons.mpr ⟨lw_p8, List.forall_mem_cons.mpr ⟨lw_p9, List.forall_mem_cons.mpr ⟨lw_p10, List.forall_mem_cons.mpr ⟨lw_p11, List.forall_mem_cons.mpr ⟨lw_p12, fun _ h => absurd h List.not_mem_nil⟩⟩⟩⟩⟩⟩⟩⟩⟩⟩⟩⟩⟩
def lw_privs : List (MethodName × Nat) := lw_privs_1
def lw_tbl : List Cond := k2_sels lw_privs ++ tables_1
theorem lw_privs_ok : ∀ q ∈ lw_privs, lw_okq q := lw_r1
-- ===== end of PART A; then your names; then what follows =====
end
section
/-! ===== BEGIN words of one list among another's, by their places ===== -/
theorem goodIn_r {big : List Cond} (ws : List Cond) (ps : List Nat) (hp : ws = ps.filterMap (fun i => big[i]?)) (h : ws.all goodWord = true) : GoodIn big ws := by
  intro w hw
  have h1 := List.all_eq_true.mp h w hw
  rw [hp] at hw
  obtain ⟨i, -, hi⟩ := List.mem_filterMap.mp hw
  have hm : w ∈ big := by first | exact List.mem_of_getElem? hi | exact List.getElem?_mem hi
  exact ⟨hm, good_of_word h1⟩
theorem goodIn_app {big a b : List Cond} (ha : GoodIn big a) (hb : GoodIn big b) : GoodIn big (a ++ b) := fun w h => (List.mem_append.mp h).elim (ha w) (hb w)
theorem goodIn_ca {big a b : List Cond} {c : Cond} (ha : GoodIn big (c :: a)) (hb : GoodIn big b) : GoodIn big (c :: (a ++ b)) := fun w h => (List.mem_cons.mp h).elim (fun e => ha w (List.mem_cons.mpr (Or.inl e))) (fun h => (List.mem_append.mp h).elim (fun h => ha w (List.mem_cons.mpr (Or.inr h))) (hb w))
theorem goodIn_sub {big ws : List Cond} (hm : ∀ w ∈ ws, w ∈ big) (h : ws.all goodWord = true) : GoodIn big ws := fun w hw => ⟨hm w hw, good_of_word (List.all_eq_true.mp h w hw)⟩
/-! ===== END ===== -/

/-! ===== BEGIN exceptions that leave a method, and their catching by the caller (launches without stack traces) ===== -/
section VXA
/-! The laws vx_back, vx_callV, vx_callS, vx_callSW, vx_throw0, vx_throwS follow proofs of the library, with one case more: JvmDerived/Free/Laws.lean (Back.of_free), Shelf42/LK1.lean (callV, callS), Shelf/KitTraced.lean (throwNew0V, throwNewS). -/
/-- where a method has thrown q: the class by its name, the cell, what was written, the world -/
def vx_T (XC : String → State → State → Prop) (st : State) (q : Addr) (t : State) (mc ms : Nat) (free : Addr → Prop) : Prop :=
  ∃ (E : String) (ce : Cell) (L : List Loc), XC E st t ∧ t.heap[q]? = some ce ∧ ce.vm = .none ∧ st.vm.findClass E = some ce.cls ∧ st.WarmedH t.vm ∧ st.sameButNew ({ t with vm := st.vm } : State) L mc ms ∧ ∀ z ∈ L, free z.base
def vx_Q (Qc : Array Value → State → Outcome → State → Prop) (XC : String → State → State → Prop) (mc ms : Nat) (free : Addr → Prop) : Array Value → State → Outcome → State → Prop := fun a st o t =>
  (Qc a st o t ∧ ∃ L, FrameEnd st o t L mc ms ∧ ∀ q ∈ L, free q.base) ∨ ∃ q, o = .threw q ∧ vx_T XC st q t mc ms free
/-- a callee that returns or throws -/
def vx_Met (l : Launch) (y : MethodName) (ws : List Cond) (rm : Room) (Pc : Array Value → State → Prop) (Qc : Array Value → State → Outcome → State → Prop) (XC : String → State → State → Prop) (mc ms : Nat) (free : Addr → Prop) : Prop :=
  MetFree l y (headSpec ws rm) Pc (fun _ _ _ _ _ => True) (vx_Q Qc XC mc ms free)
def vx_Post (XC : String → State → State → Prop) (mc ms : Nat) (free : Addr → Prop) : Pt → Array Value → Addr → Pt → Prop := fun A a q B =>
  ∃ (g : JFrame) (mk : MethodId) (t : State) (L : List Loc) (E : String) (ce : Cell), B.U.heap = t.heap ∧ B.U.vm = t.vm ∧ XC E (A.U.calling g mk a) t ∧ t.heap[q]? = some ce ∧ ce.vm = .none ∧ A.U.vm.findClass E = some ce.cls ∧ B.locs = A.locs ++ L ∧ (∀ z ∈ L, free z.base) ∧ B.cells = A.cells + mc ∧ B.slots = A.slots + ms
def vx_Back (l : Launch) (R : Room) (p : Program) (e : Env) (below : List Frame) (s : State) (sargs : Array Value) (y : MethodName) (len W9 : Nat)
    (Pre : Pt → Array Value → Prop) (Post : Pt → Array Value → Option Value → Pt → Prop) (PostX : Pt → Array Value → Addr → Pt → Prop) : Prop :=
  ∀ (m : MethodId) (meth : Method) (c : Code) (A : Pt) (g : JFrame) (ig : Instr) (mk : MethodId) (a : Array Value),
    Stand p l e R s m sargs below meth c A.U A.locs A.cells A.slots → g.method = m → g.locals.size = c.maxLocals → decode c.code g.pc = .ok (ig, len) →
    2 * g.monitorRoom + (g.stack.map fun v => v.category).sum ≤ W9 → A.U.methodNamed? y = some mk → Pre A a →
    (∃ (v : Option Value) (B : Pt), Stand p l e R s m sargs below meth c B.U B.locs B.cells B.slots ∧ Post A a v B ∧
      Steps p.tables e below (doInvoke e (A.U.setTop g) [] mk a).1 (B.U.setTop { g with pc := g.pc + len, stack := v.toList ++ g.stack })) ∨
    (∃ (q : Addr) (B : Pt), Stand p l e R s m sargs below meth c B.U B.locs B.cells B.slots ∧ PostX A a q B ∧
      Steps p.tables e below (doInvoke e (A.U.setTop g) [] mk a).1 ((B.U.setTop g).pushFrame (.throwing q)))
section Payer
variable {l : Launch} {R : Room} {p : Program} {e : Env} {below : List Frame} {s : State} {sargs : Array Value} {y : MethodName} {len W9 : Nat}
theorem vx_back {ws : List Cond} {rm : Room} {Pc : Array Value → State → Prop} {Qc : Array Value → State → Outcome → State → Prop} {XC : String → State → State → Prop} {mc ms : Nat} {free : Addr → Prop} {bytes : ByteArray} {maxL : Nat} {ret : Option FieldType}
    (hM : vx_Met l y ws rm Pc Qc XC mc ms free) (hblind : FrameBlind Pc) (hrc : rm.cells = mc) (hrs : rm.slots = ms)
    (hframes : rm.frames + 1 ≤ R.frames) (hlocals : W9 + (maxL + 11) + rm.locals ≤ R.locals)
    (hws : ∀ w ∈ ws, ∀ a' U, s.WarmedH U.vm → w.before a' U = true) (hcode : Cond.code y bytes maxL ret ∈ ws) (hinit : ∀ a' U, s.WarmedH U.vm → (Cond.initialized y.cls).before a' U = true) :
    vx_Back l R p e below s sargs y len W9 (PreOf R mc ms Pc) (PostOf Qc mc ms free) (vx_Post XC mc ms free) := by
  intro m meth c A g ig mk a X hg hsize hdg hW hn hp
  have h1 : (headSpec ws rm).pre.before a A.U = true := atoms_intro fun w hw => hws w hw _ _ X.warmed
  have h2 : (Cond.code y bytes maxL ret).before a A.U = true := hws _ hcode _ _ X.warmed
  have h3 : (Cond.initialized y.cls).before a A.U = true := hinit _ _ X.warmed
  have h4 : A.cells + (headSpec ws rm).room.cells ≤ R.cells := by rw [show (headSpec ws rm).room.cells = mc from hrc]; exact hp.1
  have h5 : A.slots + (headSpec ws rm).room.slots ≤ R.slots := by rw [show (headSpec ws rm).room.slots = ms from hrs]; exact hp.2.1
  have hPc : Pc a (A.U.calling g mk a) := hblind _ _ _ _ hp.2.2
  obtain ⟨U, Ls, c0, s0⟩ := A
  dsimp only [Pt.U, Pt.locs, Pt.cells, Pt.slots] at h1 h2 h3 h4 h5 X hn hPc ⊢
  obtain ⟨methY, cY, hmY, hcY, -, hlY, -, -, -, -⟩ := Cond.code_spec hn h2
  obtain ⟨kY, hkY, -⟩ := className_of_methodNamed hn
  have hinitY : kY.init = .initialized := Cond.initialized_spec (findClass_of_methodNamed hn) hkY h3
  have h : At U g.method c below := by rw [hg]; exact X.here
  have hlocals9 : W9 + (maxL + 11) + (headSpec ws rm).room.locals ≤ R.locals := hlocals
  have happ : (headSpec ws rm).appliesLoose y e.platform (U.calling g mk a) = true :=
    Spec.appliesLoose_calling (g := g) h hdg hn hkY hinitY
      (X.room_calling (g := g) (R' := (headSpec ws rm).room) hsize hmY hcY hframes (by rw [hlY]; omega) h4 h5) h1
  obtain ⟨mid, hmid⟩ := h.above
  have hfr : (U.setTop g).frames = (.java g :: mid) ++ below := by rw [State.frames_setTop' g h.top, hmid]; rfl
  obtain ⟨o, s₂, hsteps, -, hend, hq⟩ := Steps.callFree hM p X.admits X.cas X.clock (acts := []) hfr happ hPc trivial
  have hq' : vx_Q Qc XC mc ms free a (U.calling g mk a) o s₂ := hq
  rw [State.frames_setTop' g h.top] at hend
  obtain ⟨g₀, hg0⟩ := Option.isSome_iff_exists.mp h.top
  obtain ⟨r, hr⟩ := State.topJava?_eq_some.mp hg0
  have hr' : (({ U with heap := s₂.heap, slotsUsed := s₂.slotsUsed } : State).setVm s₂.vm).frames = .java g₀ :: r := hr
  rcases hq' with ⟨hqc, L, hfe, hL⟩ | ⟨q, rfl, E, ce, L, hx, hce, hcv, hcl, hW₂, hsm, hL⟩
  · obtain ⟨⟨v, rfl⟩, hW₂, e2, q2, q3, q4, q5, q6⟩ := id hfe
    have e3 : s₂ = ({ (U.calling g mk a).setFrames s₂.frames with heap := s₂.heap, slotsUsed := s₂.slotsUsed } : State).setVm s₂.vm := by
      have : s₂ = ({ s₂ with vm := (U.calling g mk a).vm } : State).setVm s₂.vm := rfl
      rw [e2] at this
      exact this
    obtain ⟨c₂, i₂, len₂, hc₂, hd₂, hf₂⟩ := hend
    have hW' : U.WarmedH s₂.vm := hW₂
    have hcc : c₂ = c := by
      have h1 : s₂.code? g.method = U.code? g.method := by
        rw [State.code?_eq, State.code?_eq, hW'.alike.method?]
      exact Option.some.inj (hc₂.symm.trans (h1.trans h.code))
    subst hcc
    have hlen : len₂ = len := by rw [hdg] at hd₂; cases hd₂; rfl
    subst hlen
    have hs₂ : s₂ = (({ U with heap := s₂.heap, slotsUsed := s₂.slotsUsed } : State).setVm s₂.vm).setTop { g with pc := g.pc + len₂, stack := v.toList ++ g.stack } := by
      refine e3.trans ?_
      rw [hf₂, State.calling_eq h.top, State.setFrames_setFrames, State.setTop_of_frames _ hr', hr]
      rfl
    have hsame : U.sameButNew ({ U with heap := s₂.heap, slotsUsed := s₂.slotsUsed } : State) L mc ms := by
      refine ⟨?_, q2, q3, q4, q5, q6⟩
      obtain ⟨t, ht, -⟩ := State.frames_cons hr
      show ({ U with heap := s₂.heap, slotsUsed := s₂.slotsUsed } : State) = { U.setFrames U.frames with heap := s₂.heap, slotsUsed := s₂.slotsUsed }
      rw [State.setFrames_self ht]
    subst hg
    refine Or.inl ⟨v, ⟨(({ U with heap := s₂.heap, slotsUsed := s₂.slotsUsed } : State).setVm s₂.vm), Ls ++ L, c0 + mc, s0 + ms⟩,
      ⟨X.admits, X.cas, X.clock, X.frames, X.room, X.hears, X.method, X.code, (X.here.setHeapUsed s₂.heap s₂.slotsUsed).setVm hW'.alike, X.tail, State.WarmedH.trans X.warmed hW', X.limits, X.bytes, X.same.trans (hsame.setVm s.vm)⟩,
      ⟨g, mk, s₂, L, rfl, rfl, hqc, rfl, hL, rfl, rfl⟩, ?_⟩
    show Steps p.tables e below _ ((({ U with heap := s₂.heap, slotsUsed := s₂.slotsUsed } : State).setVm s₂.vm).setTop { g with pc := g.pc + len₂, stack := v.toList ++ g.stack })
    rw [← hs₂]
    exact hsteps
  · obtain ⟨e2, q2, q3, q4, q5, q6⟩ := id hsm
    have e3 : s₂ = ({ (U.calling g mk a).setFrames s₂.frames with heap := s₂.heap, slotsUsed := s₂.slotsUsed } : State).setVm s₂.vm := by
      have : s₂ = ({ s₂ with vm := (U.calling g mk a).vm } : State).setVm s₂.vm := rfl
      rw [e2] at this
      exact this
    have hf₂ : s₂.frames = .throwing q :: .java g :: U.frames.tail := hend
    have hW' : U.WarmedH s₂.vm := hW₂
    have hs₂ : s₂ = ((({ U with heap := s₂.heap, slotsUsed := s₂.slotsUsed } : State).setVm s₂.vm).setTop g).pushFrame (.throwing q) := by
      refine e3.trans ?_
      rw [hf₂, State.calling_eq h.top, State.setFrames_setFrames, State.pushFrame, State.frames_setTop _ hr', State.setTop_of_frames _ hr', State.setFrames_setFrames, hr]
      rfl
    have hsame : U.sameButNew ({ U with heap := s₂.heap, slotsUsed := s₂.slotsUsed } : State) L mc ms := by
      refine ⟨?_, q2, q3, q4, q5, q6⟩
      obtain ⟨t, ht, -⟩ := State.frames_cons hr
      show ({ U with heap := s₂.heap, slotsUsed := s₂.slotsUsed } : State) = { U.setFrames U.frames with heap := s₂.heap, slotsUsed := s₂.slotsUsed }
      rw [State.setFrames_self ht]
    subst hg
    refine Or.inr ⟨q, ⟨(({ U with heap := s₂.heap, slotsUsed := s₂.slotsUsed } : State).setVm s₂.vm), Ls ++ L, c0 + mc, s0 + ms⟩,
      ⟨X.admits, X.cas, X.clock, X.frames, X.room, X.hears, X.method, X.code, (X.here.setHeapUsed s₂.heap s₂.slotsUsed).setVm hW'.alike, X.tail, State.WarmedH.trans X.warmed hW', X.limits, X.bytes, X.same.trans (hsame.setVm s.vm)⟩,
      ⟨g, mk, s₂, L, E, ce, rfl, rfl, hx, hce, hcv, hcl, rfl, hL, rfl, rfl⟩, ?_⟩
    show Steps p.tables e below _ (((({ U with heap := s₂.heap, slotsUsed := s₂.slotsUsed } : State).setVm s₂.vm).setTop g).pushFrame (.throwing q))
    rw [← hs₂]
    exact hsteps
end Payer
section Calls
variable {p : Program} {l : Launch} {e : Env} {R : Room} {s : State} {m : MethodId} {args : Array Value} {below : List Frame} {meth : Method} {c : Code} {T : State} {locs : List Loc} {cells slots : Nat}
theorem vx_callV (X : Stand p l e R s m args below meth c T locs cells slots) (hexec : p.tables.exec = Jvm.exec) {own C : String} {index : Nat} {y : MethodName} {bytes : ByteArray} {maxL : Nat} {ret : Option FieldType}
    (hown : s.vm.findClass own = some m.cls) (hlink : (Cond.methodLink own index y).before args s = true) (hinst : (Cond.instanceMethod y).before args s = true) (hsel : (Cond.selects C y y).before args s = true)
    (hcode : (Cond.code y bytes maxL ret).before args s = true) (hy : y.cls ≠ "java/lang/invoke/MethodHandle" ∧ y.cls ≠ "java/lang/invoke/VarHandle")
    {W9 : Nat} {Pre : Pt → Array Value → Prop} {Post : Pt → Array Value → Option Value → Pt → Prop} {PostX : Pt → Array Value → Addr → Pt → Prop} (hK : vx_Back l R p e below s args y 3 W9 Pre Post PostX)
    {b : Addr} {cellB : Cell} (hcell : T.heap[b]? = some cellB) (hobj : cellB.vm.isStatics = false) (hcls : s.vm.findClass C = some cellB.cls)
    {g : JFrame} (hg : g.method = m) (hsize : g.locals.size = c.maxLocals) {argsL rest : List Value} (hlen : ∀ sig, parseMethodDescriptor y.desc = some sig → argsL.length = sig.parameters.length)
    (hstack : g.stack = argsL.reverse ++ .ref b :: rest) (hW : 2 * g.monitorRoom + (rest.map fun v => v.category).sum ≤ W9) (hdg : decode c.code g.pc = .ok (.invokevirtual index, 3))
    (hpre : ∀ vm₁, s.WarmedH vm₁ → Pre ⟨T.setVm vm₁, locs, cells, slots⟩ (Value.ref b :: argsL).toArray) :
    (∃ (v : Option Value) (vm₁ : Vm) (B : Pt), s.WarmedH vm₁ ∧ Stand p l e R s m args below meth c B.U B.locs B.cells B.slots ∧ Post ⟨T.setVm vm₁, locs, cells, slots⟩ (Value.ref b :: argsL).toArray v B ∧
      ∀ target, Steps p.tables e below (B.U.setTop { g with pc := g.pc + 3, stack := v.toList ++ rest }) target → Steps p.tables e below (T.setTop g) target) ∨
    (∃ (q : Addr) (vm₁ : Vm) (B : Pt), s.WarmedH vm₁ ∧ Stand p l e R s m args below meth c B.U B.locs B.cells B.slots ∧ PostX ⟨T.setVm vm₁, locs, cells, slots⟩ (Value.ref b :: argsL).toArray q B ∧
      Steps p.tables e below (T.setTop g) ((B.U.setTop { g with stack := rest }).pushFrame (.throwing q))) := by
  obtain ⟨mk, methM, hnamed, hmethM, hstM, habM⟩ := Cond.instanceMethod_spec hinst
  obtain ⟨methM', cM, hmethM', -, -, -, -, -, -, hsigM⟩ := Cond.code_spec hnamed hcode
  cases hmethM.symm.trans hmethM'
  obtain ⟨c2, r2, m2, q1, q2, q3, q4, kP, hkP, hkPi⟩ := Cond.selects_spec hsel
  cases hcls.symm.trans q1
  cases (State.methodFound?_of_named hnamed hy).symm.trans q2
  cases hnamed.symm.trans q3
  have hselP : selectMethod e.platform s.vm cellB.cls mk = .method mk := by rw [Launch.admits_selectMethod X.admits]; exact q4
  obtain ⟨vm₁, X₁, hstep₁⟩ := X.invokevirtual hexec hown hlink hnamed hmethM hstM hkP hkPi hy (a := b) (cell := cellB) hcell
    (fun z h => by rw [h] at hobj; cases hobj) hselP hmethM habM hkP hkPi (g := g) hg (argsL := argsL) (rest := rest) (hlen _ hsigM) hstack hdg
  rcases hK m meth c ⟨T.setVm vm₁, locs, cells, slots⟩ { g with stack := rest } (.invokevirtual index) mk (Value.ref b :: argsL).toArray X₁ hg hsize hdg hW (X₁.named hnamed) (hpre vm₁ X₁.warmed) with ⟨v, B, X', hpost, hsteps⟩ | ⟨q, B, X', hpost, hsteps⟩
  · exact Or.inl ⟨v, vm₁, B, X₁.warmed, X', hpost, fun target h => hstep₁ _ fun acts => by rw [doInvoke_state]; exact hsteps.trans h⟩
  · exact Or.inr ⟨q, vm₁, B, X₁.warmed, X', hpost, hstep₁ _ fun acts => by rw [doInvoke_state]; exact hsteps⟩
theorem vx_callS (X : Stand p l e R s m args below meth c T locs cells slots) (hexec : p.tables.exec = Jvm.exec) {own : String} {index : Nat} {y : MethodName} {bytes : ByteArray} {maxL : Nat} {ret : Option FieldType}
    (hown : s.vm.findClass own = some m.cls) (hlink : (Cond.methodLink own index y).before args s = true) (hstat : (Cond.static y).before args s = true) (hinit : (Cond.initialized y.cls).before args s = true)
    (hcode : (Cond.code y bytes maxL ret).before args s = true) (hy : y.cls ≠ "java/lang/invoke/MethodHandle" ∧ y.cls ≠ "java/lang/invoke/VarHandle")
    {W9 : Nat} {Pre : Pt → Array Value → Prop} {Post : Pt → Array Value → Option Value → Pt → Prop} {PostX : Pt → Array Value → Addr → Pt → Prop} (hK : vx_Back l R p e below s args y 3 W9 Pre Post PostX)
    {g : JFrame} (hg : g.method = m) (hsize : g.locals.size = c.maxLocals) {argsL rest : List Value} (hlen : ∀ sig, parseMethodDescriptor y.desc = some sig → argsL.length = sig.parameters.length)
    (hstack : g.stack = argsL.reverse ++ rest) (hW : 2 * g.monitorRoom + (rest.map fun v => v.category).sum ≤ W9) (hdg : decode c.code g.pc = .ok (.invokestatic index, 3))
    (hpre : ∀ vm₁, s.WarmedH vm₁ → Pre ⟨T.setVm vm₁, locs, cells, slots⟩ argsL.toArray) :
    (∃ (v : Option Value) (vm₁ : Vm) (B : Pt), s.WarmedH vm₁ ∧ Stand p l e R s m args below meth c B.U B.locs B.cells B.slots ∧ Post ⟨T.setVm vm₁, locs, cells, slots⟩ argsL.toArray v B ∧
      ∀ target, Steps p.tables e below (B.U.setTop { g with pc := g.pc + 3, stack := v.toList ++ rest }) target → Steps p.tables e below (T.setTop g) target) ∨
    (∃ (q : Addr) (vm₁ : Vm) (B : Pt), s.WarmedH vm₁ ∧ Stand p l e R s m args below meth c B.U B.locs B.cells B.slots ∧ PostX ⟨T.setVm vm₁, locs, cells, slots⟩ argsL.toArray q B ∧
      Steps p.tables e below (T.setTop g) ((B.U.setTop { g with stack := rest }).pushFrame (.throwing q))) := by
  obtain ⟨mk, hnamed⟩ := Cond.code_named hcode
  obtain ⟨methM, cM, hmethM, -, -, -, -, -, -, hsigM⟩ := Cond.code_spec hnamed hcode
  have hstatic : methM.isStatic = true := Cond.static_spec hnamed hmethM hstat
  obtain ⟨kP, hkP, -⟩ := className_of_methodNamed hnamed
  have hinitP : kP.init = .initialized := Cond.initialized_spec (findClass_of_methodNamed hnamed) hkP hinit
  obtain ⟨vm₁, X₁, hstep₁⟩ := X.invokestatic hexec hown hlink hnamed hmethM hstatic hkP hinitP hy (g := g) hg (argsL := argsL) (rest := rest) (hlen _ hsigM) hstack hdg
  rcases hK m meth c ⟨T.setVm vm₁, locs, cells, slots⟩ { g with stack := rest } (.invokestatic index) mk argsL.toArray X₁ hg hsize hdg hW (X₁.named hnamed) (hpre vm₁ X₁.warmed) with ⟨v, B, X', hpost, hsteps⟩ | ⟨q, B, X', hpost, hsteps⟩
  · exact Or.inl ⟨v, vm₁, B, X₁.warmed, X', hpost, fun target h => hstep₁ _ fun acts => by rw [doInvoke_state]; exact hsteps.trans h⟩
  · exact Or.inr ⟨q, vm₁, B, X₁.warmed, X', hpost, hstep₁ _ fun acts => by rw [doInvoke_state]; exact hsteps⟩
end Calls
theorem vx_cls {s : State} {T : State} {vm₁ : Vm} {E : String} {k : ClassId} (hW : s.WarmedH vm₁) (h : (T.setVm vm₁).vm.findClass E = some k) : s.vm.findClass E = some k := by
  have h1 : vm₁.findClass E = some k := h
  rw [hW.alike.findClass] at h1
  exact h1
/-- the method's frame g, with q thrown over it -/
def vx_W (p : Program) (l : Launch) (e : Env) (R : Room) (s : State) (m : MethodId) (args : Array Value) (below : List Frame) (meth : Method) (c : Code) (H : Heap) (locs : List Loc) (cells slots : Nat) (Q : State → Prop) (g : JFrame) (q : Addr) : Prop :=
  ∀ T : State, T.heap = H → Stand p l e R s m args below meth c T locs cells slots → ∃ t, Steps p.tables e below ((T.setTop g).pushFrame (.throwing q)) t ∧ Q t
def vx_Run (p : Program) (l : Launch) (e : Env) (R : Room) (s : State) (m : MethodId) (args : Array Value) (below : List Frame) (meth : Method) (c : Code) (H : Heap) (locs : List Loc) (cells slots mc ms : Nat) (g : JFrame) (rest : List Value) (Qa : State → Outcome → State → Prop) (XC : String → State → State → Prop) (free : Addr → Prop) : Prop :=
  ∀ T : State, T.heap = H → Stand p l e R s m args below meth c T locs cells slots →
    (∃ (v : Option Value) (st₀ t T' : State) (L : List Loc), st₀.heap = H ∧ Stand p l e R s m args below meth c T' (locs ++ L) (cells + mc) (slots + ms) ∧ (∀ q ∈ L, free q.base) ∧ T'.heap = t.heap ∧ T'.vm = t.vm ∧ Qa st₀ (.returned v) t ∧
      Goes p e below T g T' { g with pc := g.pc + 3, stack := v.toList ++ rest }) ∨
    (∃ (q : Addr) (st₀ t T' : State) (L : List Loc) (E : String) (ce : Cell), st₀.heap = H ∧ Stand p l e R s m args below meth c T' (locs ++ L) (cells + mc) (slots + ms) ∧ (∀ z ∈ L, free z.base) ∧ T'.heap = t.heap ∧ T'.vm = t.vm ∧ XC E st₀ t ∧ t.heap[q]? = some ce ∧ ce.vm = .none ∧ s.vm.findClass E = some ce.cls ∧
      Steps p.tables e below (T.setTop g) ((T'.setTop { g with stack := rest }).pushFrame (.throwing q)))
def vx_X {S : Type} (px : S → Prop) (B : String → S → State → Prop) (A : Nat → Prop) : String → State → State → Prop := fun E st t => ∃ u : S, px u ∧ B E u t ∧ va_F A st t
section Runs
variable {p : Program} {l : Launch} {e : Env} {R : Room} {s : State} {m : MethodId} {args : Array Value} {below : List Frame} {meth : Method} {c : Code} {H : Heap} {locs : List Loc} {cells slots : Nat}
variable {y : MethodName} {bytes cc : ByteArray} {maxL nL mc ms n index : Nat} {ret : Option FieldType} {ws : List Cond} {rm : Room} {Pc : Array Value → State → Prop} {Qc : Array Value → State → Outcome → State → Prop} {XC : String → State → State → Prop} {free : Addr → Prop} {Ts : List Cond} {own C : String} {b : Addr} {As rest : List Value} {g : JFrame}
theorem vx_callBack (cb : CallB R s args own index y bytes maxL ret ws rm mc ms n) (hM : vx_Met l y ws rm Pc Qc XC mc ms free) (hbl : FrameBlind Pc) : vx_Back l R p e below s args y 3 8 (PreOf R mc ms Pc) (PostOf Qc mc ms free) (vx_Post XC mc ms free) := by
  obtain ⟨hrc, hrs, hfr, hlo, hws, hcw, -, hini, -⟩ := cb
  exact vx_back (bytes := bytes) (maxL := maxL) (ret := ret) hM hbl hrc hrs hfr hlo hws hcw (fun a' U hW => word_at hW (Or.inl (by first | rfl | simp [Cond.onTables, Cond.keeps, Cond.steady])) hini)
theorem vx_runV (S : CallFix p m c cc nL s args Ts own) (hM : vx_Met l y ws rm Pc Qc XC mc ms free) (cw : CallW R s args own C index y bytes maxL ret ws rm mc ms n) (hp : PreV s H C b Pc As)
    (hg : g.method = m) (hn : As.length = n) (hsize : g.locals.size = nL) (hstack : g.stack = As.reverse ++ .ref b :: rest) (hW : 2 * g.monitorRoom + (rest.map fun v => v.category).sum ≤ 8) (hdg : decode cc g.pc = .ok (.invokevirtual index, 3)) (hf : cells + mc ≤ R.cells ∧ slots + ms ≤ R.slots) :
    vx_Run p l e R s m args below meth c H locs cells slots mc ms g rest (Qc (Value.ref b :: As).toArray) XC free := by
  have hK : vx_Back l R p e below s args y 3 8 (PreOf R mc ms Pc) (PostOf Qc mc ms free) (vx_Post XC mc ms free) := vx_callBack cw.1 hM hp.1
  obtain ⟨⟨-, -, -, -, -, -, hcode, -, hy, hlen, hl⟩, hin, hse⟩ := cw
  obtain ⟨hx, hb, hml, ho, -⟩ := S
  obtain ⟨-, ⟨cellB, hcB, hoB, hclB⟩, hPc⟩ := hp
  intro T hT X
  rcases vx_callV X hx (C := C) (bytes := bytes) (maxL := maxL) (ret := ret) ho hl hin hse hcode hy hK (by rw [hT]; exact hcB) hoB hclB hg (hsize.trans hml.symm) (argsL := As) (rest := rest) (fun sig h => hn.trans (hlen sig h)) hstack hW (by rw [hb]; exact hdg)
    (fun vm₁ hW₁ => ⟨hf.1, hf.2, hPc (T.setVm vm₁) hT hW₁⟩) with ⟨v, vm₁, ⟨U', l2, c2, s2⟩, hW₁, X', ⟨g', mk, t, L, e1, e2, hq, h1, hL, h2, h3⟩, st⟩ | ⟨q, vm₁, ⟨U', l2, c2, s2⟩, hW₁, X', ⟨g', mk, t, L, E, ce, e1, e2, hq, hce, hcv, hcl, h1, hL, h2, h3⟩, st⟩
  · dsimp only [Pt.U, Pt.locs, Pt.cells, Pt.slots] at X' e1 e2 h1 h2 h3 st
    subst h1; subst h2; subst h3
    exact Or.inl ⟨v, (T.setVm vm₁).calling g' mk (Value.ref b :: As).toArray, t, U', L, hT, X', hL, e1, e2, hq, st⟩
  · dsimp only [Pt.U, Pt.locs, Pt.cells, Pt.slots] at X' e1 e2 h1 h2 h3 st hcl
    subst h1; subst h2; subst h3
    exact Or.inr ⟨q, (T.setVm vm₁).calling g' mk (Value.ref b :: As).toArray, t, U', L, E, ce, hT, X', hL, e1, e2, hq, hce, hcv, vx_cls hW₁ hcl, st⟩
theorem vx_runS (S : CallFix p m c cc nL s args Ts own) (hM : vx_Met l y ws rm Pc Qc XC mc ms free) (cw : CallB R s args own index y bytes maxL ret ws rm mc ms n ∧ (Cond.static y).before args s = true) (hp : PreS s H Pc As)
    (hg : g.method = m) (hn : As.length = n) (hsize : g.locals.size = nL) (hstack : g.stack = As.reverse ++ rest) (hW : 2 * g.monitorRoom + (rest.map fun v => v.category).sum ≤ 8) (hdg : decode cc g.pc = .ok (.invokestatic index, 3)) (hf : cells + mc ≤ R.cells ∧ slots + ms ≤ R.slots) :
    vx_Run p l e R s m args below meth c H locs cells slots mc ms g rest (Qc As.toArray) XC free := by
  have hK : vx_Back l R p e below s args y 3 8 (PreOf R mc ms Pc) (PostOf Qc mc ms free) (vx_Post XC mc ms free) := vx_callBack cw.1 hM hp.1
  obtain ⟨⟨-, -, -, -, -, -, hcode, hini, hy, hlen, hl⟩, hstt⟩ := cw
  obtain ⟨hx, hb, hml, ho, -⟩ := S
  intro T hT X
  rcases vx_callS X hx (bytes := bytes) (maxL := maxL) (ret := ret) ho hl hstt hini hcode hy hK hg (hsize.trans hml.symm) (argsL := As) (rest := rest) (fun sig h => hn.trans (hlen sig h)) hstack hW (by rw [hb]; exact hdg)
    (fun vm₁ hW₁ => ⟨hf.1, hf.2, hp.2 (T.setVm vm₁) hT hW₁⟩) with ⟨v, vm₁, ⟨U', l2, c2, s2⟩, hW₁, X', ⟨g', mk, t, L, e1, e2, hq, h1, hL, h2, h3⟩, st⟩ | ⟨q, vm₁, ⟨U', l2, c2, s2⟩, hW₁, X', ⟨g', mk, t, L, E, ce, e1, e2, hq, hce, hcv, hcl, h1, hL, h2, h3⟩, st⟩
  · dsimp only [Pt.U, Pt.locs, Pt.cells, Pt.slots] at X' e1 e2 h1 h2 h3 st
    subst h1; subst h2; subst h3
    exact Or.inl ⟨v, (T.setVm vm₁).calling g' mk As.toArray, t, U', L, hT, X', hL, e1, e2, hq, st⟩
  · dsimp only [Pt.U, Pt.locs, Pt.cells, Pt.slots] at X' e1 e2 h1 h2 h3 st hcl
    subst h1; subst h2; subst h3
    exact Or.inr ⟨q, (T.setVm vm₁).calling g' mk As.toArray, t, U', L, E, ce, hT, X', hL, e1, e2, hq, hce, hcv, vx_cls hW₁ hcl, st⟩
end Runs
section Rows
variable {p : Program} {l : Launch} {e : Env} {R : Room} {s : State} {m : MethodId} {args : Array Value} {below : List Frame} {meth : Method} {c : Code} {H : Heap} {locs : List Loc} {cells slots : Nat} {Q : State → Prop}
variable {mc ms : Nat} {free : Addr → Prop} {A0 A1 : Nat → Prop} {H0 : Heap} {a : Array Value} {pc : Nat} {ls : Array Slot} {st0 rest : List Value}
theorem vx_keep {st₀ t T' : State} {L : List Loc} (h0 : st₀.heap = H) (e1 : T'.heap = t.heap) (hS : va_S A0 H0 H locs) (hA : ∀ q, q < H.size → A1 q → A0 q) (hf : ∀ q, free q → A0 q) (hL : ∀ q ∈ L, free q.base) (hF : va_F A1 st₀ t) :
    H.size ≤ T'.heap.size ∧ (∀ q : Nat, q < H.size → ¬ A1 q → T'.heap[q]? = H[q]?) ∧ va_S A0 H0 T'.heap (locs ++ L) := by
  obtain ⟨hz, hk⟩ := hF
  rw [h0] at hz hk
  exact ⟨by rw [e1]; exact hz, fun q h1 h2 => by rw [e1]; exact hk q h1 h2,
    ⟨Nat.le_trans hS.1 (by rw [e1]; exact hz), fun q h1 h2 => by rw [e1, hk q (Nat.lt_of_lt_of_le h1 hS.1) (fun z => h2 (hA q (Nat.lt_of_lt_of_le h1 hS.1) z))]; exact hS.2.1 q h1 h2, fun q hq => by
      rcases List.mem_append.mp hq with h | h
      · exact hS.2.2 q h
      · exact hf _ (hL q h)⟩⟩
theorem vx_calli {S SX : Type} {post : Int32 → S → Prop} {px : SX → Prop} {B : S → State → Prop} {BX : String → SX → State → Prop} {AX : Nat → Prop} (hr : vx_Run p l e R s m args below meth c H locs cells slots mc ms (F0 m pc ls st0) rest (va_Qi post B A1 a) (vx_X px BX AX) free) (hS : va_S A0 H0 H locs) (hA : ∀ q, q < H.size → A1 q → A0 q) (hf : ∀ q, free q → A0 q) (hAX : ∀ q, q < H.size → AX q → A0 q)
    (kx : ∀ (E : String) (ce : Cell) (q9 : Addr) (u : SX) (t : State) (H1 : Heap) (locs1 : List Loc), t.heap = H1 → s.vm.Alike t.vm → px u → BX E u t → H.size ≤ H1.size → (∀ q : Nat, q < H.size → ¬ AX q → H1[q]? = H[q]?) → va_S A0 H0 H1 locs1 → H1[q9]? = some ce → ce.vm = .none → s.vm.findClass E = some ce.cls → vx_W p l e R s m args below meth c H1 locs1 (cells + mc) (slots + ms) Q (F0 m pc ls rest) q9)
    (kk : ∀ (r : Int32) (u : S) (t : State) (H1 : Heap) (locs1 : List Loc), t.heap = H1 → s.vm.Alike t.vm → post r u → B u t → H.size ≤ H1.size → (∀ q : Nat, q < H.size → ¬ A1 q → H1[q]? = H[q]?) → va_S A0 H0 H1 locs1 → W p l e R s m args below meth c H1 locs1 (cells + mc) (slots + ms) Q (F0 m (pc + 3) ls (.int r :: rest))) : W p l e R s m args below meth c H locs cells slots Q (F0 m pc ls st0) := by
  intro T hT X
  rcases hr T hT X with ⟨v, st₀, t, T', L, h0, X', hL, e1, e2, ⟨⟨r, u, hv, hp, hb⟩, hF⟩, st⟩ | ⟨q, st₀, t, T', L, E, ce, h0, X', hL, e1, e2, ⟨u, hp, hb, hF⟩, hce, hcv, hcl, st⟩
  · cases hv
    obtain ⟨k1, k2, k3⟩ := vx_keep h0 e1 hS hA hf hL hF
    obtain ⟨t2, a1, b1⟩ := kk r u t T'.heap (locs ++ L) e1.symm (by rw [← e2]; exact X'.warmed.alike) hp hb k1 k2 k3 T' rfl X'
    exact ⟨t2, st t2 a1, b1⟩
  · obtain ⟨k1, k2, k3⟩ := vx_keep h0 e1 hS hAX hf hL hF
    obtain ⟨t2, a1, b1⟩ := kx E ce q u t T'.heap (locs ++ L) e1.symm (by rw [← e2]; exact X'.warmed.alike) hp hb k1 k2 k3 (by rw [e1]; exact hce) hcv hcl T' rfl X'
    exact ⟨t2, st.trans a1, b1⟩
theorem vx_calll {S SX : Type} {post : Int64 → S → Prop} {px : SX → Prop} {B : S → State → Prop} {BX : String → SX → State → Prop} {AX : Nat → Prop} (hr : vx_Run p l e R s m args below meth c H locs cells slots mc ms (F0 m pc ls st0) rest (va_Ql post B A1 a) (vx_X px BX AX) free) (hS : va_S A0 H0 H locs) (hA : ∀ q, q < H.size → A1 q → A0 q) (hf : ∀ q, free q → A0 q) (hAX : ∀ q, q < H.size → AX q → A0 q)
    (kx : ∀ (E : String) (ce : Cell) (q9 : Addr) (u : SX) (t : State) (H1 : Heap) (locs1 : List Loc), t.heap = H1 → s.vm.Alike t.vm → px u → BX E u t → H.size ≤ H1.size → (∀ q : Nat, q < H.size → ¬ AX q → H1[q]? = H[q]?) → va_S A0 H0 H1 locs1 → H1[q9]? = some ce → ce.vm = .none → s.vm.findClass E = some ce.cls → vx_W p l e R s m args below meth c H1 locs1 (cells + mc) (slots + ms) Q (F0 m pc ls rest) q9)
    (kk : ∀ (r : Int64) (u : S) (t : State) (H1 : Heap) (locs1 : List Loc), t.heap = H1 → s.vm.Alike t.vm → post r u → B u t → H.size ≤ H1.size → (∀ q : Nat, q < H.size → ¬ A1 q → H1[q]? = H[q]?) → va_S A0 H0 H1 locs1 → W p l e R s m args below meth c H1 locs1 (cells + mc) (slots + ms) Q (F0 m (pc + 3) ls (.long r :: rest))) : W p l e R s m args below meth c H locs cells slots Q (F0 m pc ls st0) := by
  intro T hT X
  rcases hr T hT X with ⟨v, st₀, t, T', L, h0, X', hL, e1, e2, ⟨⟨r, u, hv, hp, hb⟩, hF⟩, st⟩ | ⟨q, st₀, t, T', L, E, ce, h0, X', hL, e1, e2, ⟨u, hp, hb, hF⟩, hce, hcv, hcl, st⟩
  · cases hv
    obtain ⟨k1, k2, k3⟩ := vx_keep h0 e1 hS hA hf hL hF
    obtain ⟨t2, a1, b1⟩ := kk r u t T'.heap (locs ++ L) e1.symm (by rw [← e2]; exact X'.warmed.alike) hp hb k1 k2 k3 T' rfl X'
    exact ⟨t2, st t2 a1, b1⟩
  · obtain ⟨k1, k2, k3⟩ := vx_keep h0 e1 hS hAX hf hL hF
    obtain ⟨t2, a1, b1⟩ := kx E ce q u t T'.heap (locs ++ L) e1.symm (by rw [← e2]; exact X'.warmed.alike) hp hb k1 k2 k3 (by rw [e1]; exact hce) hcv hcl T' rfl X'
    exact ⟨t2, st.trans a1, b1⟩
theorem vx_callf {S SX : Type} {post : UInt32 → S → Prop} {px : SX → Prop} {B : S → State → Prop} {BX : String → SX → State → Prop} {AX : Nat → Prop} (hr : vx_Run p l e R s m args below meth c H locs cells slots mc ms (F0 m pc ls st0) rest (va_Qf post B A1 a) (vx_X px BX AX) free) (hS : va_S A0 H0 H locs) (hA : ∀ q, q < H.size → A1 q → A0 q) (hf : ∀ q, free q → A0 q) (hAX : ∀ q, q < H.size → AX q → A0 q)
    (kx : ∀ (E : String) (ce : Cell) (q9 : Addr) (u : SX) (t : State) (H1 : Heap) (locs1 : List Loc), t.heap = H1 → s.vm.Alike t.vm → px u → BX E u t → H.size ≤ H1.size → (∀ q : Nat, q < H.size → ¬ AX q → H1[q]? = H[q]?) → va_S A0 H0 H1 locs1 → H1[q9]? = some ce → ce.vm = .none → s.vm.findClass E = some ce.cls → vx_W p l e R s m args below meth c H1 locs1 (cells + mc) (slots + ms) Q (F0 m pc ls rest) q9)
    (kk : ∀ (r : UInt32) (u : S) (t : State) (H1 : Heap) (locs1 : List Loc), t.heap = H1 → s.vm.Alike t.vm → post r u → B u t → H.size ≤ H1.size → (∀ q : Nat, q < H.size → ¬ A1 q → H1[q]? = H[q]?) → va_S A0 H0 H1 locs1 → W p l e R s m args below meth c H1 locs1 (cells + mc) (slots + ms) Q (F0 m (pc + 3) ls (.float r :: rest))) : W p l e R s m args below meth c H locs cells slots Q (F0 m pc ls st0) := by
  intro T hT X
  rcases hr T hT X with ⟨v, st₀, t, T', L, h0, X', hL, e1, e2, ⟨⟨r, u, hv, hp, hb⟩, hF⟩, st⟩ | ⟨q, st₀, t, T', L, E, ce, h0, X', hL, e1, e2, ⟨u, hp, hb, hF⟩, hce, hcv, hcl, st⟩
  · cases hv
    obtain ⟨k1, k2, k3⟩ := vx_keep h0 e1 hS hA hf hL hF
    obtain ⟨t2, a1, b1⟩ := kk r u t T'.heap (locs ++ L) e1.symm (by rw [← e2]; exact X'.warmed.alike) hp hb k1 k2 k3 T' rfl X'
    exact ⟨t2, st t2 a1, b1⟩
  · obtain ⟨k1, k2, k3⟩ := vx_keep h0 e1 hS hAX hf hL hF
    obtain ⟨t2, a1, b1⟩ := kx E ce q u t T'.heap (locs ++ L) e1.symm (by rw [← e2]; exact X'.warmed.alike) hp hb k1 k2 k3 (by rw [e1]; exact hce) hcv hcl T' rfl X'
    exact ⟨t2, st.trans a1, b1⟩
theorem vx_calld {S SX : Type} {post : UInt64 → S → Prop} {px : SX → Prop} {B : S → State → Prop} {BX : String → SX → State → Prop} {AX : Nat → Prop} (hr : vx_Run p l e R s m args below meth c H locs cells slots mc ms (F0 m pc ls st0) rest (va_Qd post B A1 a) (vx_X px BX AX) free) (hS : va_S A0 H0 H locs) (hA : ∀ q, q < H.size → A1 q → A0 q) (hf : ∀ q, free q → A0 q) (hAX : ∀ q, q < H.size → AX q → A0 q)
    (kx : ∀ (E : String) (ce : Cell) (q9 : Addr) (u : SX) (t : State) (H1 : Heap) (locs1 : List Loc), t.heap = H1 → s.vm.Alike t.vm → px u → BX E u t → H.size ≤ H1.size → (∀ q : Nat, q < H.size → ¬ AX q → H1[q]? = H[q]?) → va_S A0 H0 H1 locs1 → H1[q9]? = some ce → ce.vm = .none → s.vm.findClass E = some ce.cls → vx_W p l e R s m args below meth c H1 locs1 (cells + mc) (slots + ms) Q (F0 m pc ls rest) q9)
    (kk : ∀ (r : UInt64) (u : S) (t : State) (H1 : Heap) (locs1 : List Loc), t.heap = H1 → s.vm.Alike t.vm → post r u → B u t → H.size ≤ H1.size → (∀ q : Nat, q < H.size → ¬ A1 q → H1[q]? = H[q]?) → va_S A0 H0 H1 locs1 → W p l e R s m args below meth c H1 locs1 (cells + mc) (slots + ms) Q (F0 m (pc + 3) ls (.double r :: rest))) : W p l e R s m args below meth c H locs cells slots Q (F0 m pc ls st0) := by
  intro T hT X
  rcases hr T hT X with ⟨v, st₀, t, T', L, h0, X', hL, e1, e2, ⟨⟨r, u, hv, hp, hb⟩, hF⟩, st⟩ | ⟨q, st₀, t, T', L, E, ce, h0, X', hL, e1, e2, ⟨u, hp, hb, hF⟩, hce, hcv, hcl, st⟩
  · cases hv
    obtain ⟨k1, k2, k3⟩ := vx_keep h0 e1 hS hA hf hL hF
    obtain ⟨t2, a1, b1⟩ := kk r u t T'.heap (locs ++ L) e1.symm (by rw [← e2]; exact X'.warmed.alike) hp hb k1 k2 k3 T' rfl X'
    exact ⟨t2, st t2 a1, b1⟩
  · obtain ⟨k1, k2, k3⟩ := vx_keep h0 e1 hS hAX hf hL hF
    obtain ⟨t2, a1, b1⟩ := kx E ce q u t T'.heap (locs ++ L) e1.symm (by rw [← e2]; exact X'.warmed.alike) hp hb k1 k2 k3 (by rw [e1]; exact hce) hcv hcl T' rfl X'
    exact ⟨t2, st.trans a1, b1⟩
theorem vx_callv {S SX : Type} {post : S → Prop} {px : SX → Prop} {B : S → State → Prop} {BX : String → SX → State → Prop} {AX : Nat → Prop} (hr : vx_Run p l e R s m args below meth c H locs cells slots mc ms (F0 m pc ls st0) rest (va_Qv post B A1 a) (vx_X px BX AX) free) (hS : va_S A0 H0 H locs) (hA : ∀ q, q < H.size → A1 q → A0 q) (hf : ∀ q, free q → A0 q) (hAX : ∀ q, q < H.size → AX q → A0 q)
    (kx : ∀ (E : String) (ce : Cell) (q9 : Addr) (u : SX) (t : State) (H1 : Heap) (locs1 : List Loc), t.heap = H1 → s.vm.Alike t.vm → px u → BX E u t → H.size ≤ H1.size → (∀ q : Nat, q < H.size → ¬ AX q → H1[q]? = H[q]?) → va_S A0 H0 H1 locs1 → H1[q9]? = some ce → ce.vm = .none → s.vm.findClass E = some ce.cls → vx_W p l e R s m args below meth c H1 locs1 (cells + mc) (slots + ms) Q (F0 m pc ls rest) q9)
    (kk : ∀ (u : S) (t : State) (H1 : Heap) (locs1 : List Loc), t.heap = H1 → s.vm.Alike t.vm → post u → B u t → H.size ≤ H1.size → (∀ q : Nat, q < H.size → ¬ A1 q → H1[q]? = H[q]?) → va_S A0 H0 H1 locs1 → W p l e R s m args below meth c H1 locs1 (cells + mc) (slots + ms) Q (F0 m (pc + 3) ls (rest))) : W p l e R s m args below meth c H locs cells slots Q (F0 m pc ls st0) := by
  intro T hT X
  rcases hr T hT X with ⟨v, st₀, t, T', L, h0, X', hL, e1, e2, ⟨⟨u, hv, hp, hb⟩, hF⟩, st⟩ | ⟨q, st₀, t, T', L, E, ce, h0, X', hL, e1, e2, ⟨u, hp, hb, hF⟩, hce, hcv, hcl, st⟩
  · cases hv
    obtain ⟨k1, k2, k3⟩ := vx_keep h0 e1 hS hA hf hL hF
    obtain ⟨t2, a1, b1⟩ := kk u t T'.heap (locs ++ L) e1.symm (by rw [← e2]; exact X'.warmed.alike) hp hb k1 k2 k3 T' rfl X'
    exact ⟨t2, st t2 a1, b1⟩
  · obtain ⟨k1, k2, k3⟩ := vx_keep h0 e1 hS hAX hf hL hF
    obtain ⟨t2, a1, b1⟩ := kx E ce q u t T'.heap (locs ++ L) e1.symm (by rw [← e2]; exact X'.warmed.alike) hp hb k1 k2 k3 (by rw [e1]; exact hce) hcv hcl T' rfl X'
    exact ⟨t2, st.trans a1, b1⟩
/-- caught by the row x of this method's table; the rows ahead don't take it -/
theorem vx_catch {own name : String} {E : String} {ce : Cell} {q : Addr} (hown : s.vm.findClass own = some m.cls) (pre : List ExceptionTableEntry) (x : ExceptionTableEntry) (suf : List ExceptionTableEntry) (hsplit : c.exceptionTable.toList = pre ++ x :: suf)
    (hpass : ∀ z ∈ pre, covers z pc = false ∨ (z.catchType ≠ 0 ∧ ∃ nm : String, (Cond.classLink own z.catchType nm).before args s = true ∧ va_Nc E nm s)) (hx : covers x pc = true) (h0 : x.catchType ≠ 0)
    (hlink : (Cond.classLink own x.catchType name).before args s = true) (hcast : (Cond.castable E name).before args s = true) (hcell : H[q]? = some ce) (hv : ce.vm = .none) (hcl : s.vm.findClass E = some ce.cls)
    (kk : W p l e R s m args below meth c H locs cells slots Q (F0 m x.handlerPc ls [.ref q])) : vx_W p l e R s m args below meth c H locs cells slots Q (F0 m pc ls rest) q := by
  intro T hT X
  have hpl : e.platform.magicAccessors = ({} : Platform).magicAccessors := by rw [X.admits.platform]
  obtain ⟨c3, c4, hc3, hc4, hasg⟩ := Cond.castable_spec hcast
  cases Option.some.inj (hc3.symm.trans hcl)
  obtain ⟨c5, hc5, hcl5⟩ := Cond.classLink_spec hown hlink e.platform hpl
  cases Option.some.inj (hc4.symm.trans hc5)
  obtain ⟨vm', X', st⟩ := X.thenCaughtThrough q (g := F0 m pc ls rest) rfl (Steps.refl _) (by rw [hT]; exact hcell) (by rw [hv]; rfl) (by obtain ⟨k9, h9, -⟩ := Vm.findClass_spec hcl; exact ⟨k9, h9⟩) pre x suf hsplit
    (fun z hz => by
      rcases hpass z hz with h | ⟨hz0, nm, hl1, hn1⟩
      · exact Or.inl h
      · obtain ⟨c6, hc6, hcl6⟩ := Cond.classLink_spec hown hl1 e.platform hpl
        obtain ⟨a8, b8, h1, h2, h3⟩ := hn1
        cases Option.some.inj (h1.symm.trans hcl)
        cases Option.some.inj (h2.symm.trans hc6)
        exact Or.inr ⟨hz0, _, hcl6, h3⟩) hx (Or.inr ⟨h0, c4, hcl5, hasg⟩)
  obtain ⟨t, a1, b1⟩ := kk (T.setVm vm') hT X'
  exact ⟨t, st.trans a1, b1⟩
end Rows
section Ends
variable {p : Program} {l : Launch} {e : Env} {R : Room} {s : State} {m : MethodId} {args : Array Value} {below : List Frame} {meth : Method} {c : Code} {H : Heap} {locs : List Loc} {cells slots : Nat} {Q : State → Prop}
variable {mc ms : Nat} {free : Addr → Prop} {A0 A1 : Nat → Prop} {H0 : Heap} {a : Array Value} {ls : Array Slot} {st0 rest : List Value}
variable {Qc : Array Value → State → Outcome → State → Prop} {XC : String → State → State → Prop}
/-- what a body that may throw owes at its end -/
def vx_MQ (below : List Frame) (Qc : Array Value → State → Outcome → State → Prop) (XC : String → State → State → Prop) (a : Array Value) (s : State) (mc ms : Nat) (free : Addr → Prop) : State → Prop := fun t =>
  ∃ o, t.status = .running ∧ Ended t below o ∧ vx_Q Qc XC mc ms free a s o t
theorem vx_ret {g : JFrame} {mc ms : Nat} (k : W p l e R s m args below meth c H locs cells slots (MQ below Qc args s mc ms free) g) : W p l e R s m args below meth c H locs cells slots (vx_MQ below Qc XC args s mc ms free) g := by
  intro T hT X
  obtain ⟨t, a1, o, b1, b2, b3, b4⟩ := k T hT X
  exact ⟨t, a1, o, b1, b2, Or.inl ⟨b3, b4⟩⟩
/-- not caught here: it goes on to the caller -/
theorem vx_widen {g : JFrame} {q : Addr} {k n : Nat} (h1 : cells ≤ k) (h2 : slots ≤ n) (kk : vx_W p l e R s m args below meth c H locs k n Q g q) : vx_W p l e R s m args below meth c H locs cells slots Q g q := fun T hT X => kk T hT (stand_widen X h1 h2)
theorem vx_out {pc : Nat} {E : String} {ce : Cell} {q : Addr} {mc ms : Nat} (hout : ∀ x ∈ c.exceptionTable.toList, covers x pc = false) (hlocks : meth.locks = false) (hcell : H[q]? = some ce) (hv : ce.vm = .none) (hcl : s.vm.findClass E = some ce.cls)
    (hx : ∀ t : State, t.heap = H → s.vm.Alike t.vm → XC E s t) (hf : ∀ z ∈ locs, free z.base) (hc : cells ≤ mc) (hs : slots ≤ ms) :
    vx_W p l e R s m args below meth c H locs cells slots (vx_MQ below Qc XC args s mc ms free) (F0 m pc ls rest) q := by
  intro T hT X
  obtain ⟨st1, hrun, hend, hW, hsm⟩ := X.leaveThrown q (g := F0 m pc ls rest) rfl rfl rfl hout hlocks
  have hcell9 : (T.setFrames (.throwing q :: below)).heap[q]? = some ce := by
    show T.heap[q]? = some ce
    rw [hT]; exact hcell
  exact ⟨_, st1, .threw q, hrun, hend, Or.inr ⟨q, rfl, E, ce, locs, hx _ hT hW.alike, hcell9, hv, hcl, hW, hsm.mono hc hs, hf⟩⟩
theorem vx_frame {U : State} {k n : Nat} (h : s.sameButNew ({ U with vm := s.vm } : State) locs k n) : s.heap.size ≤ U.heap.size ∧ ∀ q : Nat, q < s.heap.size → (∀ z ∈ locs, z.base ≠ q) → U.heap[q]? = s.heap[q]? := by
  obtain ⟨-, h2, -, -, -, h6⟩ := h
  refine ⟨h2, fun q hq hz => ?_⟩
  obtain ⟨c9, e1, e2, e3, e4⟩ := h6 q _ (Array.getElem?_eq_getElem hq)
  have hs : c9.slots = (s.heap[q]).slots := Array.ext_getElem? fun i => e4 i fun hm => hz _ hm rfl
  have h9 : c9 = s.heap[q] := by
    rw [hs] at e2
    exact e2
  have e5 : U.heap[q]? = some c9 := e1
  rw [e5, h9, Array.getElem?_eq_getElem hq]
/-- the words of a throw but the four that speak of the heap -/
def vx_no (w : Cond) : Bool := decide (w ≠ .isRef (.static Bundle.tN "UNASSIGNED_STACK" Bundle.steD)) && decide (w ≠ .isRef (.static Bundle.tN "SUPPRESSED_SENTINEL" Bundle.listD)) && decide (w ≠ .laysStatic Bundle.tN "UNASSIGNED_STACK" Bundle.steD) && decide (w ≠ .laysStatic Bundle.tN "SUPPRESSED_SENTINEL" Bundle.listD)
def vx_at0 (own : String) (ic : Nat) (X : String) (names : List String) : List Cond := (Bundle.ownAtoms0 own ic X names).filter vx_no
def vx_atS (own : String) (ic : Nat) (X : String) (names : List String) : List Cond := (Bundle.ownAtoms own ic X names).filter vx_no
/-- a word that the tables alone decide, or a good one -/
def vx_ot (w : Cond) : Bool := w.onTables || goodWord w
theorem vx_ot_at {args a' : Array Value} {s U : State} {w : Cond} (hW : s.WarmedH U.vm) (hvm : s.vm = U.vm) (hg : vx_ot w = true) (h : w.before args s = true) : w.before a' U = true := by
  simp only [vx_ot, Bool.or_eq_true] at hg
  rcases hg with hg | hg
  · exact va_tabs hg hvm h
  · exact word_at hW (good_of_word hg) h
/-- a list's words: the good ones out of the method's own list, the others by premises of their own -/
theorem vx_hat {args : Array Value} {s : State} {L B : List Cond} (h1 : ∀ w ∈ L.filter goodWord, w.before args s = true) (h2 : ∀ w ∈ L.filter (fun w => !goodWord w), w ∈ B) (h3 : ∀ w ∈ B, w.before args s = true) : ∀ w ∈ L, w.before args s = true := by
  intro w hw
  by_cases g : goodWord w = true
  · exact h1 w (List.mem_filter.mpr ⟨hw, g⟩)
  · refine h3 w (h2 w (List.mem_filter.mpr ⟨hw, ?_⟩))
    show (!goodWord w) = true
    cases hgw : goodWord w
    · rfl
    · exact absurd hgw g
theorem vx_c {args : Array Value} {s : State} {w : Cond} {B : List Cond} (h : w.before args s = true) (t : ∀ w ∈ B, w.before args s = true) : ∀ w' ∈ w :: B, w'.before args s = true := fun w' h' => (List.mem_cons.mp h').elim (fun e => by rw [e]; exact h) (t w')
theorem vx_n {args : Array Value} {s : State} : ∀ w ∈ ([] : List Cond), w.before args s = true := fun _ h => nomatch h
theorem vx_own {args : Array Value} {s : State} {L : List Cond} (h1 : ∀ w ∈ L.filter vx_no, w.before args s = true)
    (hU : (Cond.isRef (.static Bundle.tN "UNASSIGNED_STACK" Bundle.steD)).before args s = true) (hN : (Cond.isRef (.static Bundle.tN "SUPPRESSED_SENTINEL" Bundle.listD)).before args s = true)
    (lU : (Cond.laysStatic Bundle.tN "UNASSIGNED_STACK" Bundle.steD).before args s = true) (lN : (Cond.laysStatic Bundle.tN "SUPPRESSED_SENTINEL" Bundle.listD).before args s = true) : ∀ w ∈ L, w.before args s = true := by
  intro w hw
  by_cases e1 : w = .isRef (.static Bundle.tN "UNASSIGNED_STACK" Bundle.steD)
  · rw [e1]; exact hU
  · by_cases e2 : w = .isRef (.static Bundle.tN "SUPPRESSED_SENTINEL" Bundle.listD)
    · rw [e2]; exact hN
    · by_cases e3 : w = .laysStatic Bundle.tN "UNASSIGNED_STACK" Bundle.steD
      · rw [e3]; exact lU
      · by_cases e4 : w = .laysStatic Bundle.tN "SUPPRESSED_SENTINEL" Bundle.listD
        · rw [e4]; exact lN
        · exact h1 w (List.mem_filter.mpr ⟨hw, by unfold vx_no; rw [decide_eq_true e1, decide_eq_true e2, decide_eq_true e3, decide_eq_true e4]; rfl⟩)
/-- where a static field lies, its class's statics cell in H -/
def vx_L (C n d : String) (A : Nat → Prop) (U : State) (H : Heap) : Prop := ∃ (c : ClassId) (k : Class) (i : Nat) (f : Field) (a : Nat) (cell : Cell), U.vm.findClass C = some c ∧ U.fieldFound? C n d = some (c, k, i, f) ∧ f.isStatic = true ∧ k.statics = some a ∧ H[a]? = some cell ∧ cell.vm.isStatics = true ∧ cell.cls = c ∧ f.slot < cell.slots.size ∧ k.staticTypes[f.slot]? = some f.type ∧ ¬ A a
theorem vx_L.moved {C n d : String} {A : Nat → Prop} {u U : State} {H : Heap} (hvm : u.vm.Alike U.vm) (h : vx_L C n d A u H) : vx_L C n d A U H := by
  obtain ⟨c, k, i, f, a, cell, h1, h2, h3, h4, h5, h6, h7, h8, h9, h10⟩ := h
  obtain ⟨k', hi', he⟩ := State.fieldFound?_setVm hvm h2
  exact ⟨c, k', i, f, a, cell, by rw [hvm.findClass]; exact h1, hi', h3, by rw [he]; exact h4, h5, h6, h7, h8, by rw [he]; exact h9, h10⟩
theorem vx_L.kept {C n d : String} {A : Nat → Prop} {U : State} {H H1 : Heap} (h : vx_L C n d A U H) (hq : ∀ a : Nat, a < H.size → ¬ A a → H1[a]? = H[a]?) : vx_L C n d A U H1 := by
  obtain ⟨c, k, i, f, a, cell, h1, h2, h3, h4, h5, h6, h7, h8, h9, h10⟩ := h
  exact ⟨c, k, i, f, a, cell, h1, h2, h3, h4, by rw [hq a (Array.getElem?_eq_some_iff.mp h5).1 h10]; exact h5, h6, h7, h8, h9, h10⟩
theorem vx_L.narrow {C n d : String} {A B : Nat → Prop} {U : State} {H : Heap} (h : vx_L C n d A U H) (hAB : ∀ q, B q → A q) : vx_L C n d B U H := by
  obtain ⟨c, k, i, f, a, cell, h1, h2, h3, h4, h5, h6, h7, h8, h9, h10⟩ := h
  exact ⟨c, k, i, f, a, cell, h1, h2, h3, h4, h5, h6, h7, h8, h9, fun z => h10 (hAB _ z)⟩
theorem vx_L.word {C n d : String} {A : Nat → Prop} {s : State} {args : Array Value} (h : vx_L C n d A s s.heap) : (Cond.laysStatic C n d).before args s = true := by
  obtain ⟨c, k, i, f, a, cell, h1, h2, h3, h4, h5, h6, h7, h8, h9, -⟩ := h
  show (Cond.laysStatic C n d).holds args s none s [] = true
  exact Cond.laysStatic_of h1 h2 h3 h4 h5 h6 h7 h8 h9
/-- .. and what it holds: null or some reference -/
def vx_Zq (C n d : String) (A : Nat → Prop) (U : State) (H : Heap) : Prop := va_Zq C n d A U H ∧ vx_L C n d A U H
theorem vx_Zq.moved {C n d : String} {A : Nat → Prop} {u U : State} {H : Heap} (hvm : u.vm.Alike U.vm) (h : vx_Zq C n d A u H) : vx_Zq C n d A U H := ⟨va_Zq.moved hvm h.1, vx_L.moved hvm h.2⟩
theorem vx_Zq.kept {C n d : String} {A : Nat → Prop} {U : State} {H H1 : Heap} (h : vx_Zq C n d A U H) (hq : ∀ a : Nat, a < H.size → ¬ A a → H1[a]? = H[a]?) : vx_Zq C n d A U H1 := ⟨va_Zq.kept h.1 hq, vx_L.kept h.2 hq⟩
theorem vx_Zq.narrow {C n d : String} {A B : Nat → Prop} {U : State} {H : Heap} (h : vx_Zq C n d A U H) (hAB : ∀ q, B q → A q) : vx_Zq C n d B U H := ⟨va_Zq.narrow h.1 hAB, vx_L.narrow h.2 hAB⟩
theorem vx_Zqof {args : Array Value} {s : State} {C n d : String} {A : Nat → Prop} (hl : (Cond.laysStatic C n d).before args s = true) (hini : (Cond.initialized C).before args s = true) (h : (Cond.isRef (.static C n d)).before args s = true) (hA : ∀ a : Nat, a < s.heap.size → ¬ A a) : vx_Zq C n d A s s.heap := by
  refine ⟨va_Zqof hl hini h hA, ?_⟩
  obtain ⟨c, k, i, f, a, cell, h1, h2, h3, h4, h5, h6, h7, h8, h9⟩ := Cond.laysStatic_spec hl
  exact ⟨c, k, i, f, a, cell, h1, h2, h3, h4, h5, h6, h7, h8, h9, hA a (Array.getElem?_eq_some_iff.mp h5).1⟩
theorem vx_isRef {C n d : String} {v : Value} {A : Nat → Prop} {s : State} {args : Array Value} (h : va_Z C n d v A s s.heap) (hv : v.isRef = true) : (Cond.isRef (.static C n d)).before args s = true := by
  obtain ⟨cf, kf, fi, f, a, cell, h1, h2, h3, h4, h5, h6, h7, -⟩ := h
  have he : (Term.static C n d).eval args s none [] s = some v := by
    simp [Term.eval, State.fieldNamed?, h1, h2, h4, h5, h6, h7]
  simp only [Cond.before, Cond.holds, Cond.value, he]
  cases v <;> simp_all [Value.isRef]
theorem vx_isRefq {C n d : String} {A : Nat → Prop} {s : State} {args : Array Value} (h : va_Zq C n d A s s.heap) : (Cond.isRef (.static C n d)).before args s = true := by
  rcases h with h | ⟨t, h⟩
  · exact vx_isRef h rfl
  · exact vx_isRef h rfl
/-- the same frame, seen from here: as if the method were called anew in this heap -/
theorem vx_rebase {T : State} (X : Stand p l e R s m args below meth c T locs cells slots) {R' : Room} (hf : R'.frames ≤ R.frames) (hl : R'.locals ≤ R.locals) (hc : cells + R'.cells ≤ R.cells) (hs : slots + R'.slots ≤ R.slots) :
    Stand p l e R' ((T.setVm s.vm).setFrames (.invoking m args :: below)) m args below meth c T [] 0 0 := by
  have htop : (T.setVm s.vm).topJava?.isSome := X.here.top
  have hF : ((T.setVm s.vm).setFrames (.invoking m args :: below)).frames = .invoking m args :: below := State.frames_setFrames _ (State.cur_lt_of_top htop)
  obtain ⟨g₀, hg0⟩ := Option.isSome_iff_exists.mp htop
  obtain ⟨r, hr⟩ := State.topJava?_eq_some.mp hg0
  have hl9 : e.platform.stackLimits (T.setVm s.vm).me = e.platform.stackLimits s.me := X.limits
  have hb9 : (T.setVm s.vm).me.stackBytes = s.me.stackBytes := X.bytes
  refine ⟨X.admits, X.cas, X.clock, hF, ?_, X.hears, X.method, X.code, X.here, X.tail, X.warmed, ?_, ?_, ?_⟩
  · have h := X.room
    have hU : ((T.setVm s.vm).setFrames (.invoking m args :: below)).localsInUse = s.localsInUse := by
      rw [State.localsInUse_invoking hF (meth := meth) (c := c) X.method X.code, State.localsInUse_invoking X.frames X.method X.code]
    simp only [State.hasRoom, Bool.and_eq_true, decide_eq_true_eq] at h ⊢
    obtain ⟨⟨⟨⟨h1, h2, h3, h4, h5, h6⟩, h7⟩, h8⟩, h9⟩ := h
    rw [X.frames, List.length_cons] at h2 h3
    have q1 := X.heapSize
    have q2 := X.used
    simp only [hF, hU, List.length_cons, State.stackLimits_setFrames, State.stackBytes_setFrames, hl9, hb9]
    refine ⟨⟨⟨⟨by omega, by omega, by omega, by omega, by omega, h6⟩, ?_⟩, ?_⟩, X.book⟩
    · show T.heap.size + R'.cells ≤ e.platform.maxCells
      omega
    · show T.slotsUsed + R'.slots ≤ e.platform.maxSlots
      omega
  · rw [State.stackLimits_setFrames]; rfl
  · rw [State.stackBytes_setFrames]; rfl
  · refine ⟨?_, Nat.le_refl _, Nat.le_refl _, ?_, ?_, fun a c9 h9 => ⟨c9, h9, rfl, rfl, fun _ _ => rfl⟩⟩
    · obtain ⟨t, ht, -⟩ := State.frames_cons hr
      show T.setVm s.vm = { ((T.setVm s.vm).setFrames (.invoking m args :: below)).setFrames (T.setVm s.vm).frames with heap := T.heap, slotsUsed := T.slotsUsed }
      rw [State.setFrames_setFrames, State.setFrames_self ht]
      rfl
    · show T.slotsUsed = T.slotsUsed + ((T.heap.toList.drop T.heap.size).map (·.slots.size)).sum
      rw [List.drop_eq_nil_of_le (Nat.le_of_eq Array.length_toList)]
      rfl
    · show ((T.heap.toList.drop T.heap.size).map (·.slots.size)).sum ≤ 0
      rw [List.drop_eq_nil_of_le (Nat.le_of_eq Array.length_toList)]
      exact Nat.le_refl _
/-- 'throw new E()': new; dup; invokespecial; athrow -/
theorem vx_throw0 {cc : ByteArray} {pc : Nat} (hexec : p.tables.exec = Jvm.exec) (hb : c.code = cc) (hl : l.stackTraces = false) {own cls : String} {names : List String} {ik ic mc ms : Nat} {A : Nat → Prop}
    (hown : s.vm.findClass own = some m.cls) (hcls : Bundle.fit cls = true) (hnames : ∀ n ∈ names, Bundle.fit n = true)
    (hk : (Cond.classLink own ik cls).before args s = true) (hini : (Cond.initialized cls).before args s = true) (hat : ∀ w ∈ vx_at0 own ic cls names, w.before args s = true)
    (hgood : ∀ w ∈ Cond.classLink own ik cls :: Cond.initialized cls :: vx_at0 own ic cls names, vx_ot w = true)
    (hU : vx_Zq Bundle.tN "UNASSIGNED_STACK" Bundle.steD A s s.heap) (hN : vx_Zq Bundle.tN "SUPPRESSED_SENTINEL" Bundle.listD A s s.heap) (hS : va_S A s.heap H locs) (hsize : ls.size = c.maxLocals)
    (d0 : decode cc pc = .ok (.new ik, 3)) (d3 : decode cc (pc + 3) = .ok (.dup, 1)) (d4 : decode cc (pc + 4) = .ok (.invokespecial ic, 3)) (d7 : decode cc (pc + 7) = .ok (.athrow, 1))
    (hout : ∀ x ∈ c.exceptionTable.toList, covers x (pc + 7) = false)
    (hRframes : names.length + 3 < R.frames) (hRlocals : (rest.map fun v => v.category).sum + (13 * (names.length + 1) + 42) ≤ R.locals) (hRcells : cells + 1 ≤ R.cells) (hRslots : slots + 6 ≤ R.slots) (hlocks : meth.locks = false)
    (hx : ∀ t : State, s.vm.Alike t.vm → H.size ≤ t.heap.size → (∀ q : Nat, q < H.size → t.heap[q]? = H[q]?) → XC cls s t)
    (hf : ∀ z ∈ locs, free z.base) (hc : cells + 1 ≤ mc) (hs : slots + 6 ≤ ms) :
    W p l e R s m args below meth c H locs cells slots (vx_MQ below Qc XC args s mc ms free) (F0 m pc ls rest) := by
  intro T hT X
  have htr : e.platform.stackTraces = false := (show e.platform.stackTraces = l.stackTraces by rw [X.admits.platform]).trans hl
  have Y := vx_rebase X (R' := { frames := R.frames, locals := R.locals, cells := 1, slots := 6 }) (Nat.le_refl _) (Nat.le_refl _) hRcells hRslots
  obtain ⟨s', hA⟩ : ∃ z, z = (T.setVm s.vm).setFrames (.invoking m args :: below) := ⟨_, rfl⟩
  rw [← hA] at Y
  have hvm : s'.vm = s.vm := by rw [hA]; rfl
  have hhp : s'.heap = H := by rw [hA]; exact hT
  have hW0 : s.WarmedH s'.vm := by rw [hvm]; exact State.WarmedH.refl s
  have hat' : ∀ w ∈ vx_at0 own ic cls names, w.before args s' = true := fun w hw => vx_ot_at hW0 hvm.symm (hgood w (List.mem_cons_of_mem _ (List.mem_cons_of_mem _ hw))) (hat w hw)
  have hk' : (Cond.classLink own ik cls).before args s' = true := vx_ot_at hW0 hvm.symm (hgood _ List.mem_cons_self) hk
  have hini' : (Cond.initialized cls).before args s' = true := vx_ot_at hW0 hvm.symm (hgood _ (List.mem_cons_of_mem _ List.mem_cons_self)) hini
  have hU' : vx_Zq Bundle.tN "UNASSIGNED_STACK" Bundle.steD A s' s'.heap := by rw [hhp]; exact vx_Zq.moved hW0.alike (hU.kept hS.2.1)
  have hN' : vx_Zq Bundle.tN "SUPPRESSED_SENTINEL" Bundle.listD A s' s'.heap := by rw [hhp]; exact vx_Zq.moved hW0.alike (hN.kept hS.2.1)
  have h : ∀ w ∈ Bundle.ownAtoms0 own ic cls names, w.before args s' = true := vx_own hat' (vx_isRefq hU'.1) (vx_isRefq hN'.1) hU'.2.word hN'.2.word
  have hown' : s'.vm.findClass own = some m.cls := by rw [hvm]; exact hown
  have hins : (Cond.instantiable cls 6).before args s' = true := h _ (by simp [Bundle.ownAtoms0])
  obtain ⟨vm₁, cX, kX, hfX, hkX, -, -, X₁, st1⟩ := Y.newCold hexec (own := own) (C := cls) (index := ik) (n := 6) hown' hk' hins hini'
    (g := F0 m pc ls rest) rfl (by rw [hb]; exact d0) (Nat.le_refl _) (Nat.le_refl _)
  generalize hT1 : (T.setVm vm₁).pushCell { cls := cX, slots := kX.instanceTypes.map defaultValue, vm := .none } = T1 at X₁ st1
  have hcat : (Value.ref T.heap.size).category = 1 := rfl
  have hcellA : T1.heap[T.heap.size]? = some (freshCell cX kX) := by rw [← hT1]; exact State.heap_pushCell_size _ _
  have d3' : decode c.code (pc + 3) = .ok (.dup, 1) := by rw [hb]; exact d3
  obtain ⟨U, hsteps, hrun, hend, hW, hsame, ce, hce, hO⟩ := X₁.ctorThrow0 hexec htr (own := own) (cls := cls) (names := names) (ic := ic) hown' hcls hnames h (fun x hx => nomatch hx) hfX hkX hcellA (by rw [hhp, hT]; exact Nat.le_refl _)
    (g := { method := m, pc := pc + 4, locals := ls, stack := .ref T.heap.size :: .ref T.heap.size :: rest, locked := none }) rfl hsize rfl rfl (rest := rest) rfl
    (by rw [hb]; exact d4) (by rw [hb]; exact d7) hout hRframes (by simp only [List.map_cons, List.sum_cons, hcat]; omega) hlocks
  obtain ⟨f1, f2⟩ := vx_frame hsame
  rw [hhp] at f1 f2
  have hWs : s.WarmedH U.vm := State.WarmedH.trans hW0 hW
  have hcl : s.vm.findClass cls = some ce.cls := by
    have h9 := hO.cls
    rw [hvm] at h9
    exact h9
  have hall : s.sameButNew ({ U with vm := s.vm } : State) locs mc ms := by
    subst hA
    obtain ⟨e1, e2⟩ := hsame
    rw [State.setFrames_setFrames] at e1
    have h2 : (T.setVm s.vm).sameButNew ({ U with vm := s.vm } : State) [] (0 + 1) (0 + 6) := ⟨e1, e2⟩
    have h3 := X.same.trans h2
    rw [List.append_nil] at h3
    exact h3.mono hc hs
  refine ⟨U, ?_, .threw T.heap.size, hrun, hend, Or.inr ⟨T.heap.size, rfl, cls, ce, locs, hx U hWs.alike f1 (fun q hq => f2 q hq (fun z hz => nomatch hz)), hce, hO.vm, hcl, hWs, hall, hf⟩⟩
  refine st1 _ ?_
  show Steps p.tables e below (T1.setTop { method := m, pc := pc + 3, locals := ls, stack := .ref T.heap.size :: rest, locked := none }) _
  jvm_step X₁.here [X₁.here.top, hexec, d3', Value.category]
  exact hsteps
/-- 'throw new E("text")': new; dup; ldc; invokespecial; athrow -/
theorem vx_throwS {cc : ByteArray} {pc : Nat} (hexec : p.tables.exec = Jvm.exec) (hb : c.code = cc) (hl : l.stackTraces = false) {own cls text : String} {names : List String} {ik is ic mc ms sa : Nat} {A : Nat → Prop}
    (hown : s.vm.findClass own = some m.cls) (hcls : Bundle.fit cls = true) (hnames : ∀ n ∈ names, Bundle.fit n = true)
    (hk : (Cond.classLink own ik cls).before args s = true) (hini : (Cond.initialized cls).before args s = true) (hstr : vk_R own is text sa s) (hat : ∀ w ∈ vx_atS own ic cls names, w.before args s = true)
    (hgood : ∀ w ∈ Cond.classLink own ik cls :: Cond.initialized cls :: vx_atS own ic cls names, vx_ot w = true)
    (hU : vx_Zq Bundle.tN "UNASSIGNED_STACK" Bundle.steD A s s.heap) (hN : vx_Zq Bundle.tN "SUPPRESSED_SENTINEL" Bundle.listD A s s.heap) (hS : va_S A s.heap H locs) (hsize : ls.size = c.maxLocals)
    (d0 : decode cc pc = .ok (.new ik, 3)) (d3 : decode cc (pc + 3) = .ok (.dup, 1)) (d4 : decode cc (pc + 4) = .ok (.ldc is, 2)) (d6 : decode cc (pc + 6) = .ok (.invokespecial ic, 3)) (d9 : decode cc (pc + 9) = .ok (.athrow, 1))
    (hout : ∀ x ∈ c.exceptionTable.toList, covers x (pc + 9) = false)
    (hRframes : names.length + 3 < R.frames) (hRlocals : (rest.map fun v => v.category).sum + (13 * (names.length + 1) + 43) ≤ R.locals) (hRcells : cells + 1 ≤ R.cells) (hRslots : slots + 6 ≤ R.slots) (hlocks : meth.locks = false)
    (hx : ∀ t : State, s.vm.Alike t.vm → H.size ≤ t.heap.size → (∀ q : Nat, q < H.size → t.heap[q]? = H[q]?) → XC cls s t)
    (hf : ∀ z ∈ locs, free z.base) (hc : cells + 1 ≤ mc) (hs : slots + 6 ≤ ms) :
    W p l e R s m args below meth c H locs cells slots (vx_MQ below Qc XC args s mc ms free) (F0 m pc ls rest) := by
  intro T hT X
  have htr : e.platform.stackTraces = false := (show e.platform.stackTraces = l.stackTraces by rw [X.admits.platform]).trans hl
  have Y := vx_rebase X (R' := { frames := R.frames, locals := R.locals, cells := 1, slots := 6 }) (Nat.le_refl _) (Nat.le_refl _) hRcells hRslots
  obtain ⟨s', hA⟩ : ∃ z, z = (T.setVm s.vm).setFrames (.invoking m args :: below) := ⟨_, rfl⟩
  rw [← hA] at Y
  have hvm : s'.vm = s.vm := by rw [hA]; rfl
  have hhp : s'.heap = H := by rw [hA]; exact hT
  have hW0 : s.WarmedH s'.vm := by rw [hvm]; exact State.WarmedH.refl s
  have hat' : ∀ w ∈ vx_atS own ic cls names, w.before args s' = true := fun w hw => vx_ot_at hW0 hvm.symm (hgood w (List.mem_cons_of_mem _ (List.mem_cons_of_mem _ hw))) (hat w hw)
  have hk' : (Cond.classLink own ik cls).before args s' = true := vx_ot_at hW0 hvm.symm (hgood _ List.mem_cons_self) hk
  have hini' : (Cond.initialized cls).before args s' = true := vx_ot_at hW0 hvm.symm (hgood _ (List.mem_cons_of_mem _ List.mem_cons_self)) hini
  have hU' : vx_Zq Bundle.tN "UNASSIGNED_STACK" Bundle.steD A s' s'.heap := by rw [hhp]; exact vx_Zq.moved hW0.alike (hU.kept hS.2.1)
  have hN' : vx_Zq Bundle.tN "SUPPRESSED_SENTINEL" Bundle.listD A s' s'.heap := by rw [hhp]; exact vx_Zq.moved hW0.alike (hN.kept hS.2.1)
  have h : ∀ w ∈ Bundle.ownAtoms own ic cls names, w.before args s' = true := vx_own hat' (vx_isRefq hU'.1) (vx_isRefq hN'.1) hU'.2.word hN'.2.word
  have hown' : s'.vm.findClass own = some m.cls := by rw [hvm]; exact hown
  have hins : (Cond.instantiable cls 6).before args s' = true := h _ (by simp [Bundle.ownAtoms])
  obtain ⟨vm₁, cX, kX, hfX, hkX, -, -, X₁, st1⟩ := Y.newCold hexec (own := own) (C := cls) (index := ik) (n := 6) hown' hk' hins hini'
    (g := F0 m pc ls rest) rfl (by rw [hb]; exact d0) (Nat.le_refl _) (Nat.le_refl _)
  generalize hT1 : (T.setVm vm₁).pushCell { cls := cX, slots := kX.instanceTypes.map defaultValue, vm := .none } = T1 at X₁ st1
  have hcat : (Value.ref T.heap.size).category = 1 := rfl
  have hcellA : T1.heap[T.heap.size]? = some (freshCell cX kX) := by rw [← hT1]; exact State.heap_pushCell_size _ _
  have d3' : decode c.code (pc + 3) = .ok (.dup, 1) := by rw [hb]; exact d3
  have d4' : decode c.code (pc + 4) = .ok (.ldc is, 2) := by rw [hb]; exact d4
  have hstr' : vk_R own is text sa s' := vk_R.warm hW0 hstr
  obtain ⟨U, hsteps, hrun, hend, hW, hsame, ce, hce, hO⟩ := X₁.ctorThrowS hexec htr (own := own) (cls := cls) (names := names) (ic := ic) hown' hcls hnames h (fun x hx => nomatch hx) hfX hkX hcellA (by rw [hhp, hT]; exact Nat.le_refl _) (msg := .ref sa) rfl
    (g := { method := m, pc := pc + 6, locals := ls, stack := .ref sa :: .ref T.heap.size :: .ref T.heap.size :: rest, locked := none }) rfl hsize rfl rfl (rest := rest) rfl
    (by rw [hb]; exact d6) (by rw [hb]; exact d9) hout hRframes (by simp only [List.map_cons, List.sum_cons, hcat]; omega) hlocks
  obtain ⟨f1, f2⟩ := vx_frame hsame
  rw [hhp] at f1 f2
  have hWs : s.WarmedH U.vm := State.WarmedH.trans hW0 hW
  have hcl : s.vm.findClass cls = some ce.cls := by
    have h9 := hO.cls
    rw [hvm] at h9
    exact h9
  have hall : s.sameButNew ({ U with vm := s.vm } : State) locs mc ms := by
    subst hA
    obtain ⟨e1, e2⟩ := hsame
    rw [State.setFrames_setFrames] at e1
    have h2 : (T.setVm s.vm).sameButNew ({ U with vm := s.vm } : State) [] (0 + 1) (0 + 6) := ⟨e1, e2⟩
    have h3 := X.same.trans h2
    rw [List.append_nil] at h3
    exact h3.mono hc hs
  refine ⟨U, ?_, .threw T.heap.size, hrun, hend, Or.inr ⟨T.heap.size, rfl, cls, ce, locs, hx U hWs.alike f1 (fun q hq => f2 q hq (fun z hz => nomatch hz)), hce, hO.vm, hcl, hWs, hall, hf⟩⟩
  refine st1 _ ?_
  show Steps p.tables e below (T1.setTop { method := m, pc := pc + 3, locals := ls, stack := .ref T.heap.size :: rest, locked := none }) _
  jvm_step X₁.here [X₁.here.top, hexec, d3', Value.category]
  exact X₁.ldcString hexec (own := own) (text := text) (index := is) (a := sa) hown' hstr'.1 hstr'.2
    (g := { method := m, pc := pc + 4, locals := ls, stack := .ref T.heap.size :: .ref T.heap.size :: rest, locked := none }) rfl d4' _ hsteps
/-- 'throw new E("text")', the text by a wide index -/
theorem vx_throwSW {cc : ByteArray} {pc : Nat} (hexec : p.tables.exec = Jvm.exec) (hb : c.code = cc) (hl : l.stackTraces = false) {own cls text : String} {names : List String} {ik is ic mc ms sa : Nat} {A : Nat → Prop}
    (hown : s.vm.findClass own = some m.cls) (hcls : Bundle.fit cls = true) (hnames : ∀ n ∈ names, Bundle.fit n = true)
    (hk : (Cond.classLink own ik cls).before args s = true) (hini : (Cond.initialized cls).before args s = true) (hstr : vk_R own is text sa s) (hat : ∀ w ∈ vx_atS own ic cls names, w.before args s = true)
    (hgood : ∀ w ∈ Cond.classLink own ik cls :: Cond.initialized cls :: vx_atS own ic cls names, vx_ot w = true)
    (hU : vx_Zq Bundle.tN "UNASSIGNED_STACK" Bundle.steD A s s.heap) (hN : vx_Zq Bundle.tN "SUPPRESSED_SENTINEL" Bundle.listD A s s.heap) (hS : va_S A s.heap H locs) (hsize : ls.size = c.maxLocals)
    (d0 : decode cc pc = .ok (.new ik, 3)) (d3 : decode cc (pc + 3) = .ok (.dup, 1)) (d4 : decode cc (pc + 4) = .ok (.ldc_w is, 3)) (d7 : decode cc (pc + 7) = .ok (.invokespecial ic, 3)) (d10 : decode cc (pc + 10) = .ok (.athrow, 1))
    (hout : ∀ x ∈ c.exceptionTable.toList, covers x (pc + 10) = false)
    (hRframes : names.length + 3 < R.frames) (hRlocals : (rest.map fun v => v.category).sum + (13 * (names.length + 1) + 43) ≤ R.locals) (hRcells : cells + 1 ≤ R.cells) (hRslots : slots + 6 ≤ R.slots) (hlocks : meth.locks = false)
    (hx : ∀ t : State, s.vm.Alike t.vm → H.size ≤ t.heap.size → (∀ q : Nat, q < H.size → t.heap[q]? = H[q]?) → XC cls s t)
    (hf : ∀ z ∈ locs, free z.base) (hc : cells + 1 ≤ mc) (hs : slots + 6 ≤ ms) :
    W p l e R s m args below meth c H locs cells slots (vx_MQ below Qc XC args s mc ms free) (F0 m pc ls rest) := by
  intro T hT X
  have htr : e.platform.stackTraces = false := (show e.platform.stackTraces = l.stackTraces by rw [X.admits.platform]).trans hl
  have Y := vx_rebase X (R' := { frames := R.frames, locals := R.locals, cells := 1, slots := 6 }) (Nat.le_refl _) (Nat.le_refl _) hRcells hRslots
  obtain ⟨s', hA⟩ : ∃ z, z = (T.setVm s.vm).setFrames (.invoking m args :: below) := ⟨_, rfl⟩
  rw [← hA] at Y
  have hvm : s'.vm = s.vm := by rw [hA]; rfl
  have hhp : s'.heap = H := by rw [hA]; exact hT
  have hW0 : s.WarmedH s'.vm := by rw [hvm]; exact State.WarmedH.refl s
  have hat' : ∀ w ∈ vx_atS own ic cls names, w.before args s' = true := fun w hw => vx_ot_at hW0 hvm.symm (hgood w (List.mem_cons_of_mem _ (List.mem_cons_of_mem _ hw))) (hat w hw)
  have hk' : (Cond.classLink own ik cls).before args s' = true := vx_ot_at hW0 hvm.symm (hgood _ List.mem_cons_self) hk
  have hini' : (Cond.initialized cls).before args s' = true := vx_ot_at hW0 hvm.symm (hgood _ (List.mem_cons_of_mem _ List.mem_cons_self)) hini
  have hU' : vx_Zq Bundle.tN "UNASSIGNED_STACK" Bundle.steD A s' s'.heap := by rw [hhp]; exact vx_Zq.moved hW0.alike (hU.kept hS.2.1)
  have hN' : vx_Zq Bundle.tN "SUPPRESSED_SENTINEL" Bundle.listD A s' s'.heap := by rw [hhp]; exact vx_Zq.moved hW0.alike (hN.kept hS.2.1)
  have h : ∀ w ∈ Bundle.ownAtoms own ic cls names, w.before args s' = true := vx_own hat' (vx_isRefq hU'.1) (vx_isRefq hN'.1) hU'.2.word hN'.2.word
  have hown' : s'.vm.findClass own = some m.cls := by rw [hvm]; exact hown
  have hins : (Cond.instantiable cls 6).before args s' = true := h _ (by simp [Bundle.ownAtoms])
  obtain ⟨vm₁, cX, kX, hfX, hkX, -, -, X₁, st1⟩ := Y.newCold hexec (own := own) (C := cls) (index := ik) (n := 6) hown' hk' hins hini'
    (g := F0 m pc ls rest) rfl (by rw [hb]; exact d0) (Nat.le_refl _) (Nat.le_refl _)
  generalize hT1 : (T.setVm vm₁).pushCell { cls := cX, slots := kX.instanceTypes.map defaultValue, vm := .none } = T1 at X₁ st1
  have hcat : (Value.ref T.heap.size).category = 1 := rfl
  have hcellA : T1.heap[T.heap.size]? = some (freshCell cX kX) := by rw [← hT1]; exact State.heap_pushCell_size _ _
  have d3' : decode c.code (pc + 3) = .ok (.dup, 1) := by rw [hb]; exact d3
  have d4' : decode c.code (pc + 4) = .ok (.ldc_w is, 3) := by rw [hb]; exact d4
  have hstr' : vk_R own is text sa s' := vk_R.warm hW0 hstr
  obtain ⟨U, hsteps, hrun, hend, hW, hsame, ce, hce, hO⟩ := X₁.ctorThrowS hexec htr (own := own) (cls := cls) (names := names) (ic := ic) hown' hcls hnames h (fun x hx => nomatch hx) hfX hkX hcellA (by rw [hhp, hT]; exact Nat.le_refl _) (msg := .ref sa) rfl
    (g := { method := m, pc := pc + 7, locals := ls, stack := .ref sa :: .ref T.heap.size :: .ref T.heap.size :: rest, locked := none }) rfl hsize rfl rfl (rest := rest) rfl
    (by rw [hb]; exact d7) (by rw [hb]; exact d10) hout hRframes (by simp only [List.map_cons, List.sum_cons, hcat]; omega) hlocks
  obtain ⟨f1, f2⟩ := vx_frame hsame
  rw [hhp] at f1 f2
  have hWs : s.WarmedH U.vm := State.WarmedH.trans hW0 hW
  have hcl : s.vm.findClass cls = some ce.cls := by
    have h9 := hO.cls
    rw [hvm] at h9
    exact h9
  have hall : s.sameButNew ({ U with vm := s.vm } : State) locs mc ms := by
    subst hA
    obtain ⟨e1, e2⟩ := hsame
    rw [State.setFrames_setFrames] at e1
    have h2 : (T.setVm s.vm).sameButNew ({ U with vm := s.vm } : State) [] (0 + 1) (0 + 6) := ⟨e1, e2⟩
    have h3 := X.same.trans h2
    rw [List.append_nil] at h3
    exact h3.mono hc hs
  refine ⟨U, ?_, .threw T.heap.size, hrun, hend, Or.inr ⟨T.heap.size, rfl, cls, ce, locs, hx U hWs.alike f1 (fun q hq => f2 q hq (fun z hz => nomatch hz)), hce, hO.vm, hcl, hWs, hall, hf⟩⟩
  refine st1 _ ?_
  show Steps p.tables e below (T1.setTop { method := m, pc := pc + 3, locals := ls, stack := .ref T.heap.size :: rest, locked := none }) _
  jvm_step X₁.here [X₁.here.top, hexec, d3', Value.category]
  exact X₁.ldcStringW hexec (own := own) (text := text) (index := is) (a := sa) hown' hstr'.1 hstr'.2
    (g := { method := m, pc := pc + 4, locals := ls, stack := .ref T.heap.size :: .ref T.heap.size :: rest, locked := none }) rfl d4' _ hsteps
end Ends
section Bodies
variable {l : Launch}
theorem vx_ofW {y : MethodName} {ws ws' : List Cond} {rm : Room} {Pc : Array Value → State → Prop} {Qc : Array Value → State → Outcome → State → Prop} {XC : String → State → State → Prop} {mc ms : Nat} {free : Addr → Prop} {cc : ByteArray} {maxL : Nat} {ret : Option FieldType}
    (hy : plainName y.cls = true) (hw : ws = Cond.code y cc maxL ret :: ws')
    (body : ∀ p e s m args below meth c s₁, BodyLoose p l y (headSpec ws rm) cc maxL ret e s m args below meth c s₁ → c.maxLocals = maxL → (∀ x ∈ c.exceptionTable.toList, False) → Pc args s →
      W p l e (headSpec ws rm).room s m args below meth c s.heap [] 0 0 (vx_MQ below Qc XC args s mc ms free) (entryFrame m args maxL)) : vx_Met l y ws rm Pc Qc XC mc ms free := by
  refine MetFree.of_bodyS (code := cc) (maxLocals := maxL) (ret := ret) hy ?_ ?_
  · intro args s m h hn
    obtain ⟨meth, c, h1, h2, h3, h4, h5, h6, -, -⟩ := Cond.code_spec hn (atoms_spec (ws := ws) h _ (by rw [hw]; exact List.mem_cons_self))
    exact ⟨meth, c, h1, h2, h3, h4, h5, h6⟩
  · intro p e s m args below meth c s₁ B hml hP _
    have hh0 : s₁.heap = s.heap := by rw [B.state]; rfl
    have ht : ∀ x ∈ c.exceptionTable.toList, False := by
      obtain ⟨meth9, c9, h1, h2, -, -, -, -, h7, -⟩ := Cond.code_spec B.named (atoms_spec (ws := ws) B.pre _ (by rw [hw]; exact List.mem_cons_self))
      cases Option.some.inj (h1.symm.trans B.method)
      cases Option.some.inj (h2.symm.trans (Stand.of_body B).code)
      intro x hx
      rw [Array.isEmpty_iff.mp h7] at hx
      cases hx
    obtain ⟨t, a1, o, b1, b2, b3⟩ := body p e s m args below meth c s₁ B hml ht hP s₁ hh0 (Stand.of_body B)
    exact ⟨t, o, a1, b1, b2, b3⟩
/-- the table of a body with handlers -/
theorem vx_table {p : Program} {x y : MethodName} {S : Spec} {cc bytes : ByteArray} {maxL maxL' : Nat} {ret ret' : Option FieldType} {e : Env} {s s₁ : State} {m : MethodId} {args : Array Value} {below : List Frame} {meth : Method} {c : Code} {hh : List (Nat × Nat × Nat × Nat)}
    (B : BodyLoose p l y S cc maxL ret e s m args below meth c s₁) (h : (Cond.codeWith y bytes maxL' ret' hh).before args s = true) : c.exceptionTable.toList = tableOf hh := by
  obtain ⟨m9, meth9, c9, hn9, h1, h2, -, -, h6, -⟩ := Cond.codeWith_spec h
  cases Option.some.inj (hn9.symm.trans B.named)
  cases Option.some.inj (h1.symm.trans B.method)
  cases Option.some.inj (h2.symm.trans (Stand.of_body B).code)
  rw [← h6, table_eq]
end Bodies
end VXA
/-! ===== END ===== -/
/-! ===== BEGIN a static call of a method with an exception table ===== -/
section VXS
variable {p : Program} {l : Launch} {e : Env} {R : Room} {s : State} {m : MethodId} {args : Array Value} {below : List Frame} {meth : Method} {c : Code} {T : State} {H : Heap} {locs : List Loc} {cells slots : Nat}
abbrev vx_CSW (R : Room) (s : State) (args : Array Value) (own : String) (index : Nat) (y : MethodName) (bytes : ByteArray) (maxL : Nat) (ret : Option FieldType) (hh : List (Nat × Nat × Nat × Nat)) (ws : List Cond) (rm : Room) (mc ms n : Nat) : Prop :=
  (rm.cells = mc ∧ rm.slots = ms ∧ rm.frames + 1 ≤ R.frames ∧ 8 + (maxL + 11) + rm.locals ≤ R.locals ∧ (∀ w ∈ ws, ∀ (a' : Array Value) (U : State), s.WarmedH U.vm → w.before a' U = true) ∧ Cond.codeWith y bytes maxL ret hh ∈ ws) ∧
  (Cond.codeWith y bytes maxL ret hh).before args s = true ∧ (Cond.initialized y.cls).before args s = true ∧ (y.cls ≠ "java/lang/invoke/MethodHandle" ∧ y.cls ≠ "java/lang/invoke/VarHandle") ∧
  (∀ sig, parseMethodDescriptor y.desc = some sig → n = sig.parameters.length) ∧ (Cond.methodLink own index y).before args s = true ∧ (Cond.static y).before args s = true
theorem vx_cwSW {own : String} {index maxL mc ms : Nat} {y : MethodName} {bytes : ByteArray} {ret : Option FieldType} {hh : List (Nat × Nat × Nat × Nat)} {Ts ws ws' : List Cond} {rm : Room} (n : Nat) (ht : ∀ w ∈ Ts, w.before args s = true) (hT : GoodIn Ts (va_wsS own index y ws)) (hw : ws = Cond.codeWith y bytes maxL ret hh :: ws') (hrc : rm.cells = mc) (hrs : rm.slots = ms)
    (hd : y.cls ≠ "java/lang/invoke/MethodHandle" ∧ y.cls ≠ "java/lang/invoke/VarHandle" ∧ (parseMethodDescriptor y.desc).map (fun d => d.parameters.length) = some n) (hR : rm.frames + 1 ≤ R.frames ∧ 8 + (maxL + 11) + rm.locals ≤ R.locals) :
    vx_CSW R s args own index y bytes maxL ret hh ws rm mc ms n := by
  have ok : ∀ w ∈ va_wsS own index y ws, w.before args s = true := fun w h => ht w (hT w h).1
  have hG : GoodIn Ts ws := fun w h => hT w (by unfold va_wsS; exact List.mem_append_right _ h)
  have hc : Cond.codeWith y bytes maxL ret hh ∈ ws := by rw [hw]; exact List.mem_cons_self
  refine ⟨⟨hrc, hrs, hR.1, hR.2, pay_in ht hG, hc⟩, ht _ (hG _ hc).1, ok _ (by simp [va_wsS]), ⟨hd.1, hd.2.1⟩, fun sig h => ?_, ok _ (by simp [va_wsS]), ok _ (by simp [va_wsS])⟩
  have h2 := hd.2.2
  rw [h] at h2
  exact (Option.some.inj h2).symm
theorem vx_callSW (X : Stand p l e R s m args below meth c T locs cells slots) (hexec : p.tables.exec = Jvm.exec) {own : String} {index : Nat} {y : MethodName} {bytes : ByteArray} {maxL : Nat} {ret : Option FieldType} {hh : List (Nat × Nat × Nat × Nat)}
    (hown : s.vm.findClass own = some m.cls) (hlink : (Cond.methodLink own index y).before args s = true) (hstat : (Cond.static y).before args s = true) (hinit : (Cond.initialized y.cls).before args s = true)
    (hcode : (Cond.codeWith y bytes maxL ret hh).before args s = true) (hy : y.cls ≠ "java/lang/invoke/MethodHandle" ∧ y.cls ≠ "java/lang/invoke/VarHandle")
    {W9 : Nat} {Pre : Pt → Array Value → Prop} {Post : Pt → Array Value → Option Value → Pt → Prop} (hK : Back l R p e below s args y 3 W9 Pre Post)
    {g : JFrame} (hg : g.method = m) (hsize : g.locals.size = c.maxLocals) {argsL rest : List Value} (hlen : ∀ sig, parseMethodDescriptor y.desc = some sig → argsL.length = sig.parameters.length)
    (hstack : g.stack = argsL.reverse ++ rest) (hW : 2 * g.monitorRoom + (rest.map fun v => v.category).sum ≤ W9) (hdg : decode c.code g.pc = .ok (.invokestatic index, 3))
    (hpre : ∀ vm₁, s.WarmedH vm₁ → Pre ⟨T.setVm vm₁, locs, cells, slots⟩ argsL.toArray) :
    ∃ (v : Option Value) (vm₁ : Vm) (B : Pt), s.WarmedH vm₁ ∧ Stand p l e R s m args below meth c B.U B.locs B.cells B.slots ∧ Post ⟨T.setVm vm₁, locs, cells, slots⟩ argsL.toArray v B ∧
      ∀ target, Steps p.tables e below (B.U.setTop { g with pc := g.pc + 3, stack := v.toList ++ rest }) target → Steps p.tables e below (T.setTop g) target := by
  obtain ⟨mk, methM, cM, hnamed, hmethM, -, -, -, -, -, -, hsigM⟩ := Cond.codeWith_spec hcode
  have hstatic : methM.isStatic = true := Cond.static_spec hnamed hmethM hstat
  obtain ⟨kP, hkP, -⟩ := className_of_methodNamed hnamed
  have hinitP : kP.init = .initialized := Cond.initialized_spec (findClass_of_methodNamed hnamed) hkP hinit
  obtain ⟨vm₁, X₁, hstep₁⟩ := X.invokestatic hexec hown hlink hnamed hmethM hstatic hkP hinitP hy (g := g) hg (argsL := argsL) (rest := rest) (hlen _ hsigM) hstack hdg
  obtain ⟨v, B, X', hpost, hsteps⟩ := hK m meth c ⟨T.setVm vm₁, locs, cells, slots⟩ { g with stack := rest } (.invokestatic index) mk argsL.toArray X₁ hg hsize hdg hW (X₁.named hnamed) (hpre vm₁ X₁.warmed)
  exact ⟨v, vm₁, B, X₁.warmed, X', hpost, fun target h => hstep₁ _ fun acts => by rw [doInvoke_state]; exact hsteps.trans h⟩
theorem vx_runSW {y : MethodName} {bytes cc : ByteArray} {maxL nL mc ms n index : Nat} {ret : Option FieldType} {hh : List (Nat × Nat × Nat × Nat)} {ws : List Cond} {rm : Room} {Pc : Array Value → State → Prop} {Qc : Array Value → State → Outcome → State → Prop} {free : Addr → Prop} {Ts : List Cond} {own : String} {As rest : List Value} {g : JFrame}
    (S : CallFix p m c cc nL s args Ts own) (hM : Met l y ws rm Pc Qc mc ms free) (cw : vx_CSW R s args own index y bytes maxL ret hh ws rm mc ms n) (hp : PreS s H Pc As)
    (hg : g.method = m) (hn : As.length = n) (hsize : g.locals.size = nL) (hstack : g.stack = As.reverse ++ rest) (hW : 2 * g.monitorRoom + (rest.map fun v => v.category).sum ≤ 8) (hdg : decode cc g.pc = .ok (.invokestatic index, 3)) (hf : cells + mc ≤ R.cells ∧ slots + ms ≤ R.slots) :
    va_Run p l e R s m args below meth c H locs cells slots mc ms g rest (Qc As.toArray) (free) := by
  obtain ⟨⟨hrc, hrs, hfr, hlo, hws, hcw⟩, hcode, hini, hy, hlen, hl, hstt⟩ := cw
  have hK : Back l R p e below s args y 3 8 (PreOf R mc ms Pc) (PostOf Qc mc ms free) := va_backW (hh := hh) (bytes := bytes) (maxL := maxL) (ret := ret) hM hp.1 hrc hrs hfr hlo hws hcw (fun a' U hW => word_at hW (Or.inl (by first | rfl | simp [Cond.onTables, Cond.keeps, Cond.steady])) hini)
  obtain ⟨hx, hb, hml, ho, -⟩ := S
  intro T hT X
  obtain ⟨v, vm₁, ⟨U', l2, c2, s2⟩, hW₁, X', ⟨g', mk, t, L, e1, e2, hq, h1, hL, h2, h3⟩, st⟩ := vx_callSW X hx (hh := hh) (bytes := bytes) (maxL := maxL) (ret := ret) ho hl hstt hini hcode hy hK hg (hsize.trans hml.symm) (argsL := As) (rest := rest) (fun sig h => hn.trans (hlen sig h)) hstack hW (by rw [hb]; exact hdg)
    (fun vm₁ hW₁ => ⟨hf.1, hf.2, hp.2 (T.setVm vm₁) hT hW₁⟩)
  dsimp only [Pt.U, Pt.locs, Pt.cells, Pt.slots] at X' e1 e2 h1 h2 h3 st
  subst h1; subst h2; subst h3
  exact ⟨v, (T.setVm vm₁).calling g' mk As.toArray, t, U', L, hT, X', hL, e1, e2, hq, st⟩
/-- not caught here, past rows that name other classes: it goes on to the caller -/
theorem vx_outP {p : Program} {l : Launch} {e : Env} {R : Room} {s : State} {m : MethodId} {args : Array Value} {below : List Frame} {meth : Method} {c : Code} {H : Heap} {locs : List Loc} {cells slots : Nat} {free : Addr → Prop} {ls : Array Slot} {rest : List Value} {Qc : Array Value → State → Outcome → State → Prop} {XC : String → State → State → Prop}
    {pc : Nat} {own E : String} {ce : Cell} {q : Addr} {mc ms : Nat} (hown : s.vm.findClass own = some m.cls) (hlocks : meth.locks = false)
    (hpass : ∀ z ∈ c.exceptionTable.toList, covers z pc = false ∨ (z.catchType ≠ 0 ∧ ∃ nm : String, (Cond.classLink own z.catchType nm).before args s = true ∧ va_Nc E nm s)) (hcell : H[q]? = some ce) (hv : ce.vm = .none) (hcl : s.vm.findClass E = some ce.cls)
    (hx : ∀ t : State, t.heap = H → s.vm.Alike t.vm → XC E s t) (hf : ∀ z ∈ locs, free z.base) (hc : cells ≤ mc) (hs : slots ≤ ms) :
    vx_W p l e R s m args below meth c H locs cells slots (vx_MQ below Qc XC args s mc ms free) (F0 m pc ls rest) q := by
  intro T hT X
  have hpl : e.platform.magicAccessors = ({} : Platform).magicAccessors := by rw [X.admits.platform]
  obtain ⟨vm', hW', X', st⟩ := X.outThrough hlocks q (g := F0 m pc ls rest) rfl rfl rfl (cell := ce) (by rw [hT]; exact hcell) (by rw [hv]; rfl)
    (by obtain ⟨k9, h9, -⟩ := Vm.findClass_spec hcl; exact ⟨k9, h9⟩) (fun z hz => by
      rcases hpass z hz with h | ⟨hz0, nm, hl1, hn1⟩
      · exact Or.inl h
      · obtain ⟨c6, hc6, hcl6⟩ := Cond.classLink_spec hown hl1 e.platform hpl
        obtain ⟨a8, b8, h1, h2, h3⟩ := hn1
        cases Option.some.inj (h1.symm.trans hcl)
        cases Option.some.inj (h2.symm.trans hc6)
        exact Or.inr ⟨hz0, _, hcl6, h3⟩)
  obtain ⟨g₀, hfr⟩ := X'.frames_eq
  have hcell9 : ((T.setVm vm').setFrames (.throwing q :: below)).heap[q]? = some ce := by
    show T.heap[q]? = some ce
    rw [hT]; exact hcell
  have hend : Ended ((T.setVm vm').setFrames (.throwing q :: below)) below (.threw q) := State.frames_setFrames _ (State.cur_lt_of_frames hfr)
  refine ⟨(T.setVm vm').setFrames (.throwing q :: below), ?_, .threw q, X'.here.running, hend, Or.inr ⟨q, rfl, E, ce, locs, hx _ hT (X'.ends _).1.alike, hcell9, hv, hcl, (X'.ends _).1, (X'.ends _).2.mono hc hs, hf⟩⟩
  rw [X.pushThrowing_eq]
  exact st
/-- a thing of a world lies in the heap -/
theorem vx_lt {D : va_G} {cl : List vw_C} {ws : va_W} {H1 : Heap} (h : va_P D cl ws H1) {k : Nat} {q : Nat × va_E} (hk : ws[k]? = some q) : q.1 < H1.size := (h k q hk).lt
end VXS
/-! ===== END ===== -/
/-! ===== BEGIN methods with a table of their own: called by a name, returning or throwing ===== -/
section VXH
/-! vx_backW, vx_callVX, vx_callSX, vx_callVW, vx_runVW, vx_runVX, vx_runSX, vx_ofWH follow the same proofs as their sisters above (Free/Laws.lean, Shelf42/LK1.lean); vx_outP calls Shelf42/NT130.lean (outThrough). -/
section
variable {l : Launch} {R : Room} {p : Program} {e : Env} {below : List Frame} {s : State} {sargs : Array Value} {y : MethodName} {len W9 : Nat}
theorem vx_backW {ws : List Cond} {rm : Room} {Pc : Array Value → State → Prop} {Qc : Array Value → State → Outcome → State → Prop} {XC : String → State → State → Prop} {mc ms : Nat} {free : Addr → Prop} {bytes : ByteArray} {maxL : Nat} {ret : Option FieldType} {hh : List (Nat × Nat × Nat × Nat)}
    (hM : vx_Met l y ws rm Pc Qc XC mc ms free) (hblind : FrameBlind Pc) (hrc : rm.cells = mc) (hrs : rm.slots = ms)
    (hframes : rm.frames + 1 ≤ R.frames) (hlocals : W9 + (maxL + 11) + rm.locals ≤ R.locals)
    (hws : ∀ w ∈ ws, ∀ a' U, s.WarmedH U.vm → w.before a' U = true) (hcode : Cond.codeWith y bytes maxL ret hh ∈ ws) (hinit : ∀ a' U, s.WarmedH U.vm → (Cond.initialized y.cls).before a' U = true) :
    vx_Back l R p e below s sargs y len W9 (PreOf R mc ms Pc) (PostOf Qc mc ms free) (vx_Post XC mc ms free) := by
  intro m meth c A g ig mk a X hg hsize hdg hW hn hp
  have h1 : (headSpec ws rm).pre.before a A.U = true := atoms_intro fun w hw => hws w hw _ _ X.warmed
  have h2 : (Cond.codeWith y bytes maxL ret hh).before a A.U = true := hws _ hcode _ _ X.warmed
  have h3 : (Cond.initialized y.cls).before a A.U = true := hinit _ _ X.warmed
  have h4 : A.cells + (headSpec ws rm).room.cells ≤ R.cells := by rw [show (headSpec ws rm).room.cells = mc from hrc]; exact hp.1
  have h5 : A.slots + (headSpec ws rm).room.slots ≤ R.slots := by rw [show (headSpec ws rm).room.slots = ms from hrs]; exact hp.2.1
  have hPc : Pc a (A.U.calling g mk a) := hblind _ _ _ _ hp.2.2
  obtain ⟨U, Ls, c0, s0⟩ := A
  dsimp only [Pt.U, Pt.locs, Pt.cells, Pt.slots] at h1 h2 h3 h4 h5 X hn hPc ⊢
  obtain ⟨m9, methY, cY, hn9, hmY, hcY, -, hlY, -⟩ := Cond.codeWith_spec h2
  cases Option.some.inj (hn9.symm.trans hn)
  obtain ⟨kY, hkY, -⟩ := className_of_methodNamed hn
  have hinitY : kY.init = .initialized := Cond.initialized_spec (findClass_of_methodNamed hn) hkY h3
  have h : At U g.method c below := by rw [hg]; exact X.here
  have hlocals9 : W9 + (maxL + 11) + (headSpec ws rm).room.locals ≤ R.locals := hlocals
  have happ : (headSpec ws rm).appliesLoose y e.platform (U.calling g mk a) = true :=
    Spec.appliesLoose_calling (g := g) h hdg hn hkY hinitY
      (X.room_calling (g := g) (R' := (headSpec ws rm).room) hsize hmY hcY hframes (by rw [hlY]; omega) h4 h5) h1
  obtain ⟨mid, hmid⟩ := h.above
  have hfr : (U.setTop g).frames = (.java g :: mid) ++ below := by rw [State.frames_setTop' g h.top, hmid]; rfl
  obtain ⟨o, s₂, hsteps, -, hend, hq⟩ := Steps.callFree hM p X.admits X.cas X.clock (acts := []) hfr happ hPc trivial
  have hq' : vx_Q Qc XC mc ms free a (U.calling g mk a) o s₂ := hq
  rw [State.frames_setTop' g h.top] at hend
  obtain ⟨g₀, hg0⟩ := Option.isSome_iff_exists.mp h.top
  obtain ⟨r, hr⟩ := State.topJava?_eq_some.mp hg0
  have hr' : (({ U with heap := s₂.heap, slotsUsed := s₂.slotsUsed } : State).setVm s₂.vm).frames = .java g₀ :: r := hr
  rcases hq' with ⟨hqc, L, hfe, hL⟩ | ⟨q, rfl, E, ce, L, hx, hce, hcv, hcl, hW₂, hsm, hL⟩
  · obtain ⟨⟨v, rfl⟩, hW₂, e2, q2, q3, q4, q5, q6⟩ := id hfe
    have e3 : s₂ = ({ (U.calling g mk a).setFrames s₂.frames with heap := s₂.heap, slotsUsed := s₂.slotsUsed } : State).setVm s₂.vm := by
      have : s₂ = ({ s₂ with vm := (U.calling g mk a).vm } : State).setVm s₂.vm := rfl
      rw [e2] at this
      exact this
    obtain ⟨c₂, i₂, len₂, hc₂, hd₂, hf₂⟩ := hend
    have hW' : U.WarmedH s₂.vm := hW₂
    have hcc : c₂ = c := by
      have h1 : s₂.code? g.method = U.code? g.method := by
        rw [State.code?_eq, State.code?_eq, hW'.alike.method?]
      exact Option.some.inj (hc₂.symm.trans (h1.trans h.code))
    subst hcc
    have hlen : len₂ = len := by rw [hdg] at hd₂; cases hd₂; rfl
    subst hlen
    have hs₂ : s₂ = (({ U with heap := s₂.heap, slotsUsed := s₂.slotsUsed } : State).setVm s₂.vm).setTop { g with pc := g.pc + len₂, stack := v.toList ++ g.stack } := by
      refine e3.trans ?_
      rw [hf₂, State.calling_eq h.top, State.setFrames_setFrames, State.setTop_of_frames _ hr', hr]
      rfl
    have hsame : U.sameButNew ({ U with heap := s₂.heap, slotsUsed := s₂.slotsUsed } : State) L mc ms := by
      refine ⟨?_, q2, q3, q4, q5, q6⟩
      obtain ⟨t, ht, -⟩ := State.frames_cons hr
      show ({ U with heap := s₂.heap, slotsUsed := s₂.slotsUsed } : State) = { U.setFrames U.frames with heap := s₂.heap, slotsUsed := s₂.slotsUsed }
      rw [State.setFrames_self ht]
    subst hg
    refine Or.inl ⟨v, ⟨(({ U with heap := s₂.heap, slotsUsed := s₂.slotsUsed } : State).setVm s₂.vm), Ls ++ L, c0 + mc, s0 + ms⟩,
      ⟨X.admits, X.cas, X.clock, X.frames, X.room, X.hears, X.method, X.code, (X.here.setHeapUsed s₂.heap s₂.slotsUsed).setVm hW'.alike, X.tail, State.WarmedH.trans X.warmed hW', X.limits, X.bytes, X.same.trans (hsame.setVm s.vm)⟩,
      ⟨g, mk, s₂, L, rfl, rfl, hqc, rfl, hL, rfl, rfl⟩, ?_⟩
    show Steps p.tables e below _ ((({ U with heap := s₂.heap, slotsUsed := s₂.slotsUsed } : State).setVm s₂.vm).setTop { g with pc := g.pc + len₂, stack := v.toList ++ g.stack })
    rw [← hs₂]
    exact hsteps
  · obtain ⟨e2, q2, q3, q4, q5, q6⟩ := id hsm
    have e3 : s₂ = ({ (U.calling g mk a).setFrames s₂.frames with heap := s₂.heap, slotsUsed := s₂.slotsUsed } : State).setVm s₂.vm := by
      have : s₂ = ({ s₂ with vm := (U.calling g mk a).vm } : State).setVm s₂.vm := rfl
      rw [e2] at this
      exact this
    have hf₂ : s₂.frames = .throwing q :: .java g :: U.frames.tail := hend
    have hW' : U.WarmedH s₂.vm := hW₂
    have hs₂ : s₂ = ((({ U with heap := s₂.heap, slotsUsed := s₂.slotsUsed } : State).setVm s₂.vm).setTop g).pushFrame (.throwing q) := by
      refine e3.trans ?_
      rw [hf₂, State.calling_eq h.top, State.setFrames_setFrames, State.pushFrame, State.frames_setTop _ hr', State.setTop_of_frames _ hr', State.setFrames_setFrames, hr]
      rfl
    have hsame : U.sameButNew ({ U with heap := s₂.heap, slotsUsed := s₂.slotsUsed } : State) L mc ms := by
      refine ⟨?_, q2, q3, q4, q5, q6⟩
      obtain ⟨t, ht, -⟩ := State.frames_cons hr
      show ({ U with heap := s₂.heap, slotsUsed := s₂.slotsUsed } : State) = { U.setFrames U.frames with heap := s₂.heap, slotsUsed := s₂.slotsUsed }
      rw [State.setFrames_self ht]
    subst hg
    refine Or.inr ⟨q, ⟨(({ U with heap := s₂.heap, slotsUsed := s₂.slotsUsed } : State).setVm s₂.vm), Ls ++ L, c0 + mc, s0 + ms⟩,
      ⟨X.admits, X.cas, X.clock, X.frames, X.room, X.hears, X.method, X.code, (X.here.setHeapUsed s₂.heap s₂.slotsUsed).setVm hW'.alike, X.tail, State.WarmedH.trans X.warmed hW', X.limits, X.bytes, X.same.trans (hsame.setVm s.vm)⟩,
      ⟨g, mk, s₂, L, E, ce, rfl, rfl, hx, hce, hcv, hcl, rfl, hL, rfl, rfl⟩, ?_⟩
    show Steps p.tables e below _ (((({ U with heap := s₂.heap, slotsUsed := s₂.slotsUsed } : State).setVm s₂.vm).setTop g).pushFrame (.throwing q))
    rw [← hs₂]
    exact hsteps
end
variable {p : Program} {l : Launch} {e : Env} {R : Room} {s : State} {m : MethodId} {args : Array Value} {below : List Frame} {meth : Method} {c : Code} {T : State} {H : Heap} {locs : List Loc} {cells slots : Nat}
theorem vx_callVX (X : Stand p l e R s m args below meth c T locs cells slots) (hexec : p.tables.exec = Jvm.exec) {own C : String} {index : Nat} {y : MethodName} {bytes : ByteArray} {maxL : Nat} {ret : Option FieldType} {hh : List (Nat × Nat × Nat × Nat)}
    (hown : s.vm.findClass own = some m.cls) (hlink : (Cond.methodLink own index y).before args s = true) (hinst : (Cond.instanceMethod y).before args s = true) (hsel : (Cond.selects C y y).before args s = true)
    (hcode : (Cond.codeWith y bytes maxL ret hh).before args s = true) (hy : y.cls ≠ "java/lang/invoke/MethodHandle" ∧ y.cls ≠ "java/lang/invoke/VarHandle")
    {W9 : Nat} {Pre : Pt → Array Value → Prop} {Post : Pt → Array Value → Option Value → Pt → Prop} {PostX : Pt → Array Value → Addr → Pt → Prop} (hK : vx_Back l R p e below s args y 3 W9 Pre Post PostX)
    {b : Addr} {cellB : Cell} (hcell : T.heap[b]? = some cellB) (hobj : cellB.vm.isStatics = false) (hcls : s.vm.findClass C = some cellB.cls)
    {g : JFrame} (hg : g.method = m) (hsize : g.locals.size = c.maxLocals) {argsL rest : List Value} (hlen : ∀ sig, parseMethodDescriptor y.desc = some sig → argsL.length = sig.parameters.length)
    (hstack : g.stack = argsL.reverse ++ .ref b :: rest) (hW : 2 * g.monitorRoom + (rest.map fun v => v.category).sum ≤ W9) (hdg : decode c.code g.pc = .ok (.invokevirtual index, 3))
    (hpre : ∀ vm₁, s.WarmedH vm₁ → Pre ⟨T.setVm vm₁, locs, cells, slots⟩ (Value.ref b :: argsL).toArray) :
    (∃ (v : Option Value) (vm₁ : Vm) (B : Pt), s.WarmedH vm₁ ∧ Stand p l e R s m args below meth c B.U B.locs B.cells B.slots ∧ Post ⟨T.setVm vm₁, locs, cells, slots⟩ (Value.ref b :: argsL).toArray v B ∧
      ∀ target, Steps p.tables e below (B.U.setTop { g with pc := g.pc + 3, stack := v.toList ++ rest }) target → Steps p.tables e below (T.setTop g) target) ∨
    (∃ (q : Addr) (vm₁ : Vm) (B : Pt), s.WarmedH vm₁ ∧ Stand p l e R s m args below meth c B.U B.locs B.cells B.slots ∧ PostX ⟨T.setVm vm₁, locs, cells, slots⟩ (Value.ref b :: argsL).toArray q B ∧
      Steps p.tables e below (T.setTop g) ((B.U.setTop { g with stack := rest }).pushFrame (.throwing q))) := by
  obtain ⟨mk, methM, hnamed, hmethM, hstM, habM⟩ := Cond.instanceMethod_spec hinst
  obtain ⟨m8, methM', cM, hn8, hmethM', -, -, -, -, -, -, hsigM⟩ := Cond.codeWith_spec hcode
  cases Option.some.inj (hn8.symm.trans hnamed)
  cases hmethM.symm.trans hmethM'
  obtain ⟨c2, r2, m2, q1, q2, q3, q4, kP, hkP, hkPi⟩ := Cond.selects_spec hsel
  cases hcls.symm.trans q1
  cases (State.methodFound?_of_named hnamed hy).symm.trans q2
  cases hnamed.symm.trans q3
  have hselP : selectMethod e.platform s.vm cellB.cls mk = .method mk := by rw [Launch.admits_selectMethod X.admits]; exact q4
  obtain ⟨vm₁, X₁, hstep₁⟩ := X.invokevirtual hexec hown hlink hnamed hmethM hstM hkP hkPi hy (a := b) (cell := cellB) hcell
    (fun z h => by rw [h] at hobj; cases hobj) hselP hmethM habM hkP hkPi (g := g) hg (argsL := argsL) (rest := rest) (hlen _ hsigM) hstack hdg
  rcases hK m meth c ⟨T.setVm vm₁, locs, cells, slots⟩ { g with stack := rest } (.invokevirtual index) mk (Value.ref b :: argsL).toArray X₁ hg hsize hdg hW (X₁.named hnamed) (hpre vm₁ X₁.warmed) with ⟨v, B, X', hpost, hsteps⟩ | ⟨q, B, X', hpost, hsteps⟩
  · exact Or.inl ⟨v, vm₁, B, X₁.warmed, X', hpost, fun target h => hstep₁ _ fun acts => by rw [doInvoke_state]; exact hsteps.trans h⟩
  · exact Or.inr ⟨q, vm₁, B, X₁.warmed, X', hpost, hstep₁ _ fun acts => by rw [doInvoke_state]; exact hsteps⟩
theorem vx_callSX (X : Stand p l e R s m args below meth c T locs cells slots) (hexec : p.tables.exec = Jvm.exec) {own : String} {index : Nat} {y : MethodName} {bytes : ByteArray} {maxL : Nat} {ret : Option FieldType} {hh : List (Nat × Nat × Nat × Nat)}
    (hown : s.vm.findClass own = some m.cls) (hlink : (Cond.methodLink own index y).before args s = true) (hstat : (Cond.static y).before args s = true) (hinit : (Cond.initialized y.cls).before args s = true)
    (hcode : (Cond.codeWith y bytes maxL ret hh).before args s = true) (hy : y.cls ≠ "java/lang/invoke/MethodHandle" ∧ y.cls ≠ "java/lang/invoke/VarHandle")
    {W9 : Nat} {Pre : Pt → Array Value → Prop} {Post : Pt → Array Value → Option Value → Pt → Prop} {PostX : Pt → Array Value → Addr → Pt → Prop} (hK : vx_Back l R p e below s args y 3 W9 Pre Post PostX)
    {g : JFrame} (hg : g.method = m) (hsize : g.locals.size = c.maxLocals) {argsL rest : List Value} (hlen : ∀ sig, parseMethodDescriptor y.desc = some sig → argsL.length = sig.parameters.length)
    (hstack : g.stack = argsL.reverse ++ rest) (hW : 2 * g.monitorRoom + (rest.map fun v => v.category).sum ≤ W9) (hdg : decode c.code g.pc = .ok (.invokestatic index, 3))
    (hpre : ∀ vm₁, s.WarmedH vm₁ → Pre ⟨T.setVm vm₁, locs, cells, slots⟩ argsL.toArray) :
    (∃ (v : Option Value) (vm₁ : Vm) (B : Pt), s.WarmedH vm₁ ∧ Stand p l e R s m args below meth c B.U B.locs B.cells B.slots ∧ Post ⟨T.setVm vm₁, locs, cells, slots⟩ argsL.toArray v B ∧
      ∀ target, Steps p.tables e below (B.U.setTop { g with pc := g.pc + 3, stack := v.toList ++ rest }) target → Steps p.tables e below (T.setTop g) target) ∨
    (∃ (q : Addr) (vm₁ : Vm) (B : Pt), s.WarmedH vm₁ ∧ Stand p l e R s m args below meth c B.U B.locs B.cells B.slots ∧ PostX ⟨T.setVm vm₁, locs, cells, slots⟩ argsL.toArray q B ∧
      Steps p.tables e below (T.setTop g) ((B.U.setTop { g with stack := rest }).pushFrame (.throwing q))) := by
  obtain ⟨mk, methM, cM, hnamed, hmethM, -, -, -, -, -, -, hsigM⟩ := Cond.codeWith_spec hcode
  have hstatic : methM.isStatic = true := Cond.static_spec hnamed hmethM hstat
  obtain ⟨kP, hkP, -⟩ := className_of_methodNamed hnamed
  have hinitP : kP.init = .initialized := Cond.initialized_spec (findClass_of_methodNamed hnamed) hkP hinit
  obtain ⟨vm₁, X₁, hstep₁⟩ := X.invokestatic hexec hown hlink hnamed hmethM hstatic hkP hinitP hy (g := g) hg (argsL := argsL) (rest := rest) (hlen _ hsigM) hstack hdg
  rcases hK m meth c ⟨T.setVm vm₁, locs, cells, slots⟩ { g with stack := rest } (.invokestatic index) mk argsL.toArray X₁ hg hsize hdg hW (X₁.named hnamed) (hpre vm₁ X₁.warmed) with ⟨v, B, X', hpost, hsteps⟩ | ⟨q, B, X', hpost, hsteps⟩
  · exact Or.inl ⟨v, vm₁, B, X₁.warmed, X', hpost, fun target h => hstep₁ _ fun acts => by rw [doInvoke_state]; exact hsteps.trans h⟩
  · exact Or.inr ⟨q, vm₁, B, X₁.warmed, X', hpost, hstep₁ _ fun acts => by rw [doInvoke_state]; exact hsteps⟩
theorem vx_callVW (X : Stand p l e R s m args below meth c T locs cells slots) (hexec : p.tables.exec = Jvm.exec) {own C : String} {index : Nat} {y : MethodName} {bytes : ByteArray} {maxL : Nat} {ret : Option FieldType} {hh : List (Nat × Nat × Nat × Nat)}
    (hown : s.vm.findClass own = some m.cls) (hlink : (Cond.methodLink own index y).before args s = true) (hinst : (Cond.instanceMethod y).before args s = true) (hsel : (Cond.selects C y y).before args s = true)
    (hcode : (Cond.codeWith y bytes maxL ret hh).before args s = true) (hy : y.cls ≠ "java/lang/invoke/MethodHandle" ∧ y.cls ≠ "java/lang/invoke/VarHandle")
    {W9 : Nat} {Pre : Pt → Array Value → Prop} {Post : Pt → Array Value → Option Value → Pt → Prop} (hK : Back l R p e below s args y 3 W9 Pre Post)
    {b : Addr} {cellB : Cell} (hcell : T.heap[b]? = some cellB) (hobj : cellB.vm.isStatics = false) (hcls : s.vm.findClass C = some cellB.cls)
    {g : JFrame} (hg : g.method = m) (hsize : g.locals.size = c.maxLocals) {argsL rest : List Value} (hlen : ∀ sig, parseMethodDescriptor y.desc = some sig → argsL.length = sig.parameters.length)
    (hstack : g.stack = argsL.reverse ++ .ref b :: rest) (hW : 2 * g.monitorRoom + (rest.map fun v => v.category).sum ≤ W9) (hdg : decode c.code g.pc = .ok (.invokevirtual index, 3))
    (hpre : ∀ vm₁, s.WarmedH vm₁ → Pre ⟨T.setVm vm₁, locs, cells, slots⟩ (Value.ref b :: argsL).toArray) :
    ∃ (v : Option Value) (vm₁ : Vm) (B : Pt), s.WarmedH vm₁ ∧ Stand p l e R s m args below meth c B.U B.locs B.cells B.slots ∧ Post ⟨T.setVm vm₁, locs, cells, slots⟩ (Value.ref b :: argsL).toArray v B ∧
      ∀ target, Steps p.tables e below (B.U.setTop { g with pc := g.pc + 3, stack := v.toList ++ rest }) target → Steps p.tables e below (T.setTop g) target := by
  obtain ⟨mk, methM, hnamed, hmethM, hstM, habM⟩ := Cond.instanceMethod_spec hinst
  obtain ⟨m8, methM', cM, hn8, hmethM', -, -, -, -, -, -, hsigM⟩ := Cond.codeWith_spec hcode
  cases Option.some.inj (hn8.symm.trans hnamed)
  cases hmethM.symm.trans hmethM'
  obtain ⟨c2, r2, m2, q1, q2, q3, q4, kP, hkP, hkPi⟩ := Cond.selects_spec hsel
  cases hcls.symm.trans q1
  cases (State.methodFound?_of_named hnamed hy).symm.trans q2
  cases hnamed.symm.trans q3
  have hselP : selectMethod e.platform s.vm cellB.cls mk = .method mk := by rw [Launch.admits_selectMethod X.admits]; exact q4
  obtain ⟨vm₁, X₁, hstep₁⟩ := X.invokevirtual hexec hown hlink hnamed hmethM hstM hkP hkPi hy (a := b) (cell := cellB) hcell
    (fun z h => by rw [h] at hobj; cases hobj) hselP hmethM habM hkP hkPi (g := g) hg (argsL := argsL) (rest := rest) (hlen _ hsigM) hstack hdg
  obtain ⟨v, B, X', hpost, hsteps⟩ := hK m meth c ⟨T.setVm vm₁, locs, cells, slots⟩ { g with stack := rest } (.invokevirtual index) mk (Value.ref b :: argsL).toArray X₁ hg hsize hdg hW (X₁.named hnamed) (hpre vm₁ X₁.warmed)
  exact ⟨v, vm₁, B, X₁.warmed, X', hpost, fun target h => hstep₁ _ fun acts => by rw [doInvoke_state]; exact hsteps.trans h⟩
abbrev vx_CVW (R : Room) (s : State) (args : Array Value) (own C : String) (index : Nat) (y : MethodName) (bytes : ByteArray) (maxL : Nat) (ret : Option FieldType) (hh : List (Nat × Nat × Nat × Nat)) (ws : List Cond) (rm : Room) (mc ms n : Nat) : Prop :=
  (rm.cells = mc ∧ rm.slots = ms ∧ rm.frames + 1 ≤ R.frames ∧ 8 + (maxL + 11) + rm.locals ≤ R.locals ∧ (∀ w ∈ ws, ∀ (a' : Array Value) (U : State), s.WarmedH U.vm → w.before a' U = true) ∧ Cond.codeWith y bytes maxL ret hh ∈ ws) ∧
  (Cond.codeWith y bytes maxL ret hh).before args s = true ∧ (Cond.initialized y.cls).before args s = true ∧ (y.cls ≠ "java/lang/invoke/MethodHandle" ∧ y.cls ≠ "java/lang/invoke/VarHandle") ∧
  (∀ sig, parseMethodDescriptor y.desc = some sig → n = sig.parameters.length) ∧ (Cond.methodLink own index y).before args s = true ∧ (Cond.instanceMethod y).before args s = true ∧ (Cond.selects C y y).before args s = true
theorem vx_cwVW {own C : String} {index maxL mc ms : Nat} {y : MethodName} {bytes : ByteArray} {ret : Option FieldType} {hh : List (Nat × Nat × Nat × Nat)} {Ts ws ws' : List Cond} {rm : Room} (n : Nat) (ht : ∀ w ∈ Ts, w.before args s = true) (hT : GoodIn Ts (wsV own index C y ws)) (hw : ws = Cond.codeWith y bytes maxL ret hh :: ws') (hrc : rm.cells = mc) (hrs : rm.slots = ms)
    (hd : y.cls = C ∧ y.cls ≠ "java/lang/invoke/MethodHandle" ∧ y.cls ≠ "java/lang/invoke/VarHandle" ∧ (parseMethodDescriptor y.desc).map (fun d => d.parameters.length) = some n) (hR : rm.frames + 1 ≤ R.frames ∧ 8 + (maxL + 11) + rm.locals ≤ R.locals) :
    vx_CVW R s args own C index y bytes maxL ret hh ws rm mc ms n := by
  obtain ⟨hC, hd⟩ := hd
  subst hC
  have ok : ∀ w ∈ wsV own index y.cls y ws, w.before args s = true := fun w h => ht w (hT w h).1
  have hG : GoodIn Ts ws := fun w h => hT w (by unfold wsV; exact List.mem_append_right _ h)
  have hc : Cond.codeWith y bytes maxL ret hh ∈ ws := by rw [hw]; exact List.mem_cons_self
  refine ⟨⟨hrc, hrs, hR.1, hR.2, pay_in ht hG, hc⟩, ht _ (hG _ hc).1, ok _ (by simp [wsV]), ⟨hd.1, hd.2.1⟩, fun sig h => ?_, ok _ (by simp [wsV]), ok _ (by simp [wsV]), ok _ (by simp [wsV])⟩
  have h2 := hd.2.2
  rw [h] at h2
  exact (Option.some.inj h2).symm
theorem vx_runVW {y : MethodName} {bytes cc : ByteArray} {maxL nL mc ms n index : Nat} {ret : Option FieldType} {hh : List (Nat × Nat × Nat × Nat)} {ws : List Cond} {rm : Room} {Pc : Array Value → State → Prop} {Qc : Array Value → State → Outcome → State → Prop} {free : Addr → Prop} {Ts : List Cond} {own C : String} {b : Addr} {As rest : List Value} {g : JFrame}
    (S : CallFix p m c cc nL s args Ts own) (hM : Met l y ws rm Pc Qc mc ms free) (cw : vx_CVW R s args own C index y bytes maxL ret hh ws rm mc ms n) (hp : PreV s H C b Pc As)
    (hg : g.method = m) (hn : As.length = n) (hsize : g.locals.size = nL) (hstack : g.stack = As.reverse ++ .ref b :: rest) (hW : 2 * g.monitorRoom + (rest.map fun v => v.category).sum ≤ 8) (hdg : decode cc g.pc = .ok (.invokevirtual index, 3)) (hf : cells + mc ≤ R.cells ∧ slots + ms ≤ R.slots) :
    va_Run p l e R s m args below meth c H locs cells slots mc ms g rest (Qc (Value.ref b :: As).toArray) free := by
  obtain ⟨⟨hrc, hrs, hfr, hlo, hws, hcw⟩, hcode, hini, hy, hlen, hl, hin, hse⟩ := cw
  have hK : Back l R p e below s args y 3 8 (PreOf R mc ms Pc) (PostOf Qc mc ms free) := va_backW (hh := hh) (bytes := bytes) (maxL := maxL) (ret := ret) hM hp.1 hrc hrs hfr hlo hws hcw (fun a' U hW => word_at hW (Or.inl (by first | rfl | simp [Cond.onTables, Cond.keeps, Cond.steady])) hini)
  obtain ⟨hx, hb, hml, ho, -⟩ := S
  obtain ⟨-, ⟨cellB, hcB, hoB, hclB⟩, hPc⟩ := hp
  intro T hT X
  obtain ⟨v, vm₁, ⟨U', l2, c2, s2⟩, hW₁, X', ⟨g', mk, t, L, e1, e2, hq, h1, hL, h2, h3⟩, st⟩ := vx_callVW X hx (C := C) (hh := hh) (bytes := bytes) (maxL := maxL) (ret := ret) ho hl hin hse hcode hy hK (by rw [hT]; exact hcB) hoB hclB hg (hsize.trans hml.symm) (argsL := As) (rest := rest) (fun sig h => hn.trans (hlen sig h)) hstack hW (by rw [hb]; exact hdg)
    (fun vm₁ hW₁ => ⟨hf.1, hf.2, hPc (T.setVm vm₁) hT hW₁⟩)
  dsimp only [Pt.U, Pt.locs, Pt.cells, Pt.slots] at X' e1 e2 h1 h2 h3 st
  subst h1; subst h2; subst h3
  exact ⟨v, (T.setVm vm₁).calling g' mk (Value.ref b :: As).toArray, t, U', L, hT, X', hL, e1, e2, hq, st⟩
section
variable {y : MethodName} {bytes cc : ByteArray} {maxL nL mc ms n index : Nat} {ret : Option FieldType} {ws : List Cond} {rm : Room} {Pc : Array Value → State → Prop} {Qc : Array Value → State → Outcome → State → Prop} {XC : String → State → State → Prop} {free : Addr → Prop} {Ts : List Cond} {own C : String} {b : Addr} {As rest : List Value} {g : JFrame}
theorem vx_runVX {hh : List (Nat × Nat × Nat × Nat)} (S : CallFix p m c cc nL s args Ts own) (hM : vx_Met l y ws rm Pc Qc XC mc ms free) (cw : vx_CVW R s args own C index y bytes maxL ret hh ws rm mc ms n) (hp : PreV s H C b Pc As)
    (hg : g.method = m) (hn : As.length = n) (hsize : g.locals.size = nL) (hstack : g.stack = As.reverse ++ .ref b :: rest) (hW : 2 * g.monitorRoom + (rest.map fun v => v.category).sum ≤ 8) (hdg : decode cc g.pc = .ok (.invokevirtual index, 3)) (hf : cells + mc ≤ R.cells ∧ slots + ms ≤ R.slots) :
    vx_Run p l e R s m args below meth c H locs cells slots mc ms g rest (Qc (Value.ref b :: As).toArray) XC free := by
  obtain ⟨⟨hrc, hrs, hfr, hlo, hws, hcw⟩, hcode, hini, hy, hlen, hl, hin, hse⟩ := cw
  have hK : vx_Back l R p e below s args y 3 8 (PreOf R mc ms Pc) (PostOf Qc mc ms free) (vx_Post XC mc ms free) := vx_backW (hh := hh) (bytes := bytes) (maxL := maxL) (ret := ret) hM hp.1 hrc hrs hfr hlo hws hcw (fun a' U hW => word_at hW (Or.inl (by first | rfl | simp [Cond.onTables, Cond.keeps, Cond.steady])) hini)
  obtain ⟨hx, hb, hml, ho, -⟩ := S
  obtain ⟨-, ⟨cellB, hcB, hoB, hclB⟩, hPc⟩ := hp
  intro T hT X
  rcases vx_callVX X hx (C := C) (hh := hh) (bytes := bytes) (maxL := maxL) (ret := ret) ho hl hin hse hcode hy hK (by rw [hT]; exact hcB) hoB hclB hg (hsize.trans hml.symm) (argsL := As) (rest := rest) (fun sig h => hn.trans (hlen sig h)) hstack hW (by rw [hb]; exact hdg)
    (fun vm₁ hW₁ => ⟨hf.1, hf.2, hPc (T.setVm vm₁) hT hW₁⟩) with ⟨v, vm₁, ⟨U', l2, c2, s2⟩, hW₁, X', ⟨g', mk, t, L, e1, e2, hq, h1, hL, h2, h3⟩, st⟩ | ⟨q, vm₁, ⟨U', l2, c2, s2⟩, hW₁, X', ⟨g', mk, t, L, E, ce, e1, e2, hq, hce, hcv, hcl, h1, hL, h2, h3⟩, st⟩
  · dsimp only [Pt.U, Pt.locs, Pt.cells, Pt.slots] at X' e1 e2 h1 h2 h3 st
    subst h1; subst h2; subst h3
    exact Or.inl ⟨v, (T.setVm vm₁).calling g' mk (Value.ref b :: As).toArray, t, U', L, hT, X', hL, e1, e2, hq, st⟩
  · dsimp only [Pt.U, Pt.locs, Pt.cells, Pt.slots] at X' e1 e2 h1 h2 h3 st hcl
    subst h1; subst h2; subst h3
    exact Or.inr ⟨q, (T.setVm vm₁).calling g' mk (Value.ref b :: As).toArray, t, U', L, E, ce, hT, X', hL, e1, e2, hq, hce, hcv, vx_cls hW₁ hcl, st⟩
theorem vx_runSX {hh : List (Nat × Nat × Nat × Nat)} (S : CallFix p m c cc nL s args Ts own) (hM : vx_Met l y ws rm Pc Qc XC mc ms free) (cw : vx_CSW R s args own index y bytes maxL ret hh ws rm mc ms n) (hp : PreS s H Pc As)
    (hg : g.method = m) (hn : As.length = n) (hsize : g.locals.size = nL) (hstack : g.stack = As.reverse ++ rest) (hW : 2 * g.monitorRoom + (rest.map fun v => v.category).sum ≤ 8) (hdg : decode cc g.pc = .ok (.invokestatic index, 3)) (hf : cells + mc ≤ R.cells ∧ slots + ms ≤ R.slots) :
    vx_Run p l e R s m args below meth c H locs cells slots mc ms g rest (Qc As.toArray) XC free := by
  obtain ⟨⟨hrc, hrs, hfr, hlo, hws, hcw⟩, hcode, hini, hy, hlen, hl, hstt⟩ := cw
  have hK : vx_Back l R p e below s args y 3 8 (PreOf R mc ms Pc) (PostOf Qc mc ms free) (vx_Post XC mc ms free) := vx_backW (hh := hh) (bytes := bytes) (maxL := maxL) (ret := ret) hM hp.1 hrc hrs hfr hlo hws hcw (fun a' U hW => word_at hW (Or.inl (by first | rfl | simp [Cond.onTables, Cond.keeps, Cond.steady])) hini)
  obtain ⟨hx, hb, hml, ho, -⟩ := S
  intro T hT X
  rcases vx_callSX X hx (hh := hh) (bytes := bytes) (maxL := maxL) (ret := ret) ho hl hstt hini hcode hy hK hg (hsize.trans hml.symm) (argsL := As) (rest := rest) (fun sig h => hn.trans (hlen sig h)) hstack hW (by rw [hb]; exact hdg)
    (fun vm₁ hW₁ => ⟨hf.1, hf.2, hp.2 (T.setVm vm₁) hT hW₁⟩) with ⟨v, vm₁, ⟨U', l2, c2, s2⟩, hW₁, X', ⟨g', mk, t, L, e1, e2, hq, h1, hL, h2, h3⟩, st⟩ | ⟨q, vm₁, ⟨U', l2, c2, s2⟩, hW₁, X', ⟨g', mk, t, L, E, ce, e1, e2, hq, hce, hcv, hcl, h1, hL, h2, h3⟩, st⟩
  · dsimp only [Pt.U, Pt.locs, Pt.cells, Pt.slots] at X' e1 e2 h1 h2 h3 st
    subst h1; subst h2; subst h3
    exact Or.inl ⟨v, (T.setVm vm₁).calling g' mk As.toArray, t, U', L, hT, X', hL, e1, e2, hq, st⟩
  · dsimp only [Pt.U, Pt.locs, Pt.cells, Pt.slots] at X' e1 e2 h1 h2 h3 st hcl
    subst h1; subst h2; subst h3
    exact Or.inr ⟨q, (T.setVm vm₁).calling g' mk As.toArray, t, U', L, E, ce, hT, X', hL, e1, e2, hq, hce, hcv, vx_cls hW₁ hcl, st⟩
end
end VXH
theorem vx_ofWH {l : Launch} {y : MethodName} {ws ws' : List Cond} {rm : Room} {Pc : Array Value → State → Prop} {Qc : Array Value → State → Outcome → State → Prop} {XC : String → State → State → Prop} {mc ms : Nat} {free : Addr → Prop} {cc : ByteArray} {maxL : Nat} {ret : Option FieldType} {hh : List (Nat × Nat × Nat × Nat)}
    (hy : plainName y.cls = true) (hw : ws = Cond.codeWith y cc maxL ret hh :: ws')
    (body : ∀ p e s m args below meth c s₁, BodyLoose p l y (headSpec ws rm) cc maxL ret e s m args below meth c s₁ → c.maxLocals = maxL → Pc args s →
      W p l e (headSpec ws rm).room s m args below meth c s.heap [] 0 0 (vx_MQ below Qc XC args s mc ms free) (entryFrame m args maxL)) : vx_Met l y ws rm Pc Qc XC mc ms free := by
  refine MetFree.of_bodyS (code := cc) (maxLocals := maxL) (ret := ret) hy ?_ ?_
  · intro args s m h hn
    obtain ⟨m9, meth, c, hn9, h1, h2, h3, h4, -, h5, h6, -⟩ := Cond.codeWith_spec (atoms_spec (ws := ws) h _ (by rw [hw]; exact List.mem_cons_self))
    cases hn.symm.trans hn9
    exact ⟨meth, c, h1, h2, h3, h4, h5, h6⟩
  · intro p e s m args below meth c s₁ B hml hP _
    have hh0 : s₁.heap = s.heap := by rw [B.state]; rfl
    obtain ⟨t, a1, o, b1, b2, b3⟩ := body p e s m args below meth c s₁ B hml hP s₁ hh0 (Stand.of_body B)
    exact ⟨t, o, a1, b1, b2, b3⟩
/-! ===== END ===== -/
end
section
/-! ===== BEGIN printed: names, fields, word lists, decode rows ===== -/
def RX0 : String := "HedgeClips$Clip"
def TX0 : u_T := fun k => match k with
  | _ => ("", "", "", false)
def tyX0 : Nat → FieldType := fun k => match k with
  | _ => .int
theorem nmX0 : ∀ a, a < 0 → ∀ b, b < 0 → a ≠ b → (TX0 a).2.1 ≠ (TX0 b).2.1 := by decide +kernel
theorem tyX0_ok : ∀ k, k < 0 → parseFieldDescriptor (TX0 k).2.2.1 = some (tyX0 k) := by decide +kernel
abbrev cX0_number : ByteArray := prog_2_method_2_code
def yX0_number : MethodName := ⟨RX0, "number", "(III)I"⟩
abbrev cX0_from : ByteArray := prog_2_method_3_code
def yX0_from : MethodName := ⟨RX0, "from", "(I)I"⟩
abbrev cX0_to : ByteArray := prog_2_method_4_code
def yX0_to : MethodName := ⟨RX0, "to", "(I)I"⟩
abbrev cX0_lost : ByteArray := prog_2_method_5_code
def yX0_lost : MethodName := ⟨RX0, "lost", "(I)I"⟩
def RX1 : String := "HedgeClips$Garden"
def TX1 : u_T := fun k => match k with
  | 0 => ("HedgeClips$Garden", "stems", "I", false)
  | 1 => ("HedgeClips$Garden", "hedge", "I", false)
  | 2 => ("HedgeClips$Garden", "wind", "I", false)
  | 3 => ("HedgeClips$Garden", "turn", "I", false)
  | 4 => ("HedgeClips$Garden", "fine", "I", false)
  | 5 => ("HedgeClips$Garden", "reach", "I", false)
  | 6 => ("HedgeClips$Garden", "first", "LHedgeClips$Gardener;", true)
  | _ => ("HedgeClips$Garden", "second", "LHedgeClips$Gardener;", true)
def tyX1 : Nat → FieldType := fun k => match k with
  | 0 => .int
  | 1 => .int
  | 2 => .int
  | 3 => .int
  | 4 => .int
  | 5 => .int
  | 6 => .object "HedgeClips$Gardener"
  | _ => .object "HedgeClips$Gardener"
theorem nmX1 : ∀ a, a < 8 → ∀ b, b < 8 → a ≠ b → (TX1 a).2.1 ≠ (TX1 b).2.1 := by decide +kernel
theorem tyX1_ok : ∀ k, k < 8 → parseFieldDescriptor (TX1 k).2.2.1 = some (tyX1 k) := by decide +kernel
abbrev cX1_init : ByteArray := prog_3_method_1_code
def yX1_init : MethodName := ⟨RX1, "<init>", "()V"⟩
abbrev cX1_makeNew : ByteArray := prog_3_method_2_code
def yX1_makeNew : MethodName := ⟨RX1, "makeNew", "(II)V"⟩
abbrev cX1_replant : ByteArray := prog_3_method_3_code
def yX1_replant : MethodName := ⟨RX1, "replant", "(II)V"⟩
abbrev cX1_becomes : ByteArray := prog_3_method_4_code
def yX1_becomes : MethodName := ⟨RX1, "becomes", "(LHedgeClips$Garden;)V"⟩
abbrev cX1_hasGardener : ByteArray := prog_3_method_5_code
def yX1_hasGardener : MethodName := ⟨RX1, "hasGardener", "(I)Z"⟩
abbrev cX1_isWind : ByteArray := prog_3_method_6_code
def yX1_isWind : MethodName := ⟨RX1, "isWind", "(I)Z"⟩
abbrev cX1_who : ByteArray := prog_3_method_7_code
def yX1_who : MethodName := ⟨RX1, "who", "(I)LHedgeClips$Gardener;"⟩
abbrev cX1_hasStem : ByteArray := prog_3_method_8_code
def yX1_hasStem : MethodName := ⟨RX1, "hasStem", "(I)Z"⟩
abbrev cX1_allowsClip : ByteArray := prog_3_method_9_code
def yX1_allowsClip : MethodName := ⟨RX1, "allowsClip", "(III)Z"⟩
abbrev cX1_isOver : ByteArray := prog_3_method_10_code
def yX1_isOver : MethodName := ⟨RX1, "isOver", "()Z"⟩
abbrev cX1_allClips : ByteArray := prog_3_method_11_code
def yX1_allClips : MethodName := ⟨RX1, "allClips", "()I"⟩
abbrev cX1_allFines : ByteArray := prog_3_method_12_code
def yX1_allFines : MethodName := ⟨RX1, "allFines", "()I"⟩
abbrev cX1_doClip : ByteArray := prog_3_method_13_code
def yX1_doClip : MethodName := ⟨RX1, "doClip", "(I)I"⟩
abbrev cX1_turnOver : ByteArray := prog_3_method_14_code
def yX1_turnOver : MethodName := ⟨RX1, "turnOver", "()V"⟩
abbrev cX1_triesClip : ByteArray := prog_3_method_15_code
def yX1_triesClip : MethodName := ⟨RX1, "triesClip", "(III)Z"⟩
abbrev cX1_triesWater : ByteArray := prog_3_method_16_code
def yX1_triesWater : MethodName := ⟨RX1, "triesWater", "(I)Z"⟩
abbrev cX1_triesWind : ByteArray := prog_3_method_17_code
def yX1_triesWind : MethodName := ⟨RX1, "triesWind", "(I)Z"⟩
def RX2 : String := "HedgeClips$Gardener"
def TX2 : u_T := fun k => match k with
  | 0 => ("HedgeClips$Gardener", "fines", "I", false)
  | 1 => ("HedgeClips$Gardener", "clips", "I", false)
  | _ => ("HedgeClips$Gardener", "taken", "I", false)
def tyX2 : Nat → FieldType := fun k => match k with
  | 0 => .int
  | 1 => .int
  | _ => .int
theorem nmX2 : ∀ a, a < 3 → ∀ b, b < 3 → a ≠ b → (TX2 a).2.1 ≠ (TX2 b).2.1 := by decide +kernel
theorem tyX2_ok : ∀ k, k < 3 → parseFieldDescriptor (TX2 k).2.2.1 = some (tyX2 k) := by decide +kernel
abbrev cX2_init : ByteArray := prog_4_method_1_code
def yX2_init : MethodName := ⟨RX2, "<init>", "()V"⟩
abbrev cX2_becomes : ByteArray := prog_4_method_2_code
def yX2_becomes : MethodName := ⟨RX2, "becomes", "(LHedgeClips$Gardener;)V"⟩
abbrev cX2_makeNew : ByteArray := prog_4_method_3_code
def yX2_makeNew : MethodName := ⟨RX2, "makeNew", "()V"⟩
def RX3 : String := "HedgeClips$Hedge"
def TX3 : u_T := fun k => match k with
  | _ => ("", "", "", false)
def tyX3 : Nat → FieldType := fun k => match k with
  | _ => .int
theorem nmX3 : ∀ a, a < 0 → ∀ b, b < 0 → a ≠ b → (TX3 a).2.1 ≠ (TX3 b).2.1 := by decide +kernel
theorem tyX3_ok : ∀ k, k < 0 → parseFieldDescriptor (TX3 k).2.2.1 = some (tyX3 k) := by decide +kernel
abbrev cX3_hedges : ByteArray := prog_5_method_2_code
def yX3_hedges : MethodName := ⟨RX3, "hedges", "(I)I"⟩
abbrev cX3_leavesOf : ByteArray := prog_5_method_3_code
def yX3_leavesOf : MethodName := ⟨RX3, "leavesOf", "(II)I"⟩
abbrev cX3_isFull : ByteArray := prog_5_method_4_code
def yX3_isFull : MethodName := ⟨RX3, "isFull", "(II)Z"⟩
abbrev cX3_watered : ByteArray := prog_5_method_5_code
def yX3_watered : MethodName := ⟨RX3, "watered", "(II)I"⟩
abbrev cX3_allLeaves : ByteArray := prog_5_method_6_code
def yX3_allLeaves : MethodName := ⟨RX3, "allLeaves", "(I)I"⟩
abbrev cX3_leafy : ByteArray := prog_5_method_7_code
def yX3_leafy : MethodName := ⟨RX3, "leafy", "(I)I"⟩
abbrev cX3_hasLeaves : ByteArray := prog_5_method_8_code
def yX3_hasLeaves : MethodName := ⟨RX3, "hasLeaves", "(III)Z"⟩
abbrev cX3_clipped : ByteArray := prog_5_method_9_code
def yX3_clipped : MethodName := ⟨RX3, "clipped", "(II)I"⟩
abbrev cX3_blown : ByteArray := prog_5_method_10_code
def yX3_blown : MethodName := ⟨RX3, "blown", "(III)I"⟩
abbrev cX3_bared : ByteArray := prog_5_method_11_code
def yX3_bared : MethodName := ⟨RX3, "bared", "(II)I"⟩
def RX4 : String := "HedgeClips$Memory"
def TX4 : u_T := fun k => match k with
  | 0 => ("HedgeClips$Memory", "ring", "[LHedgeClips$Garden;", true)
  | 1 => ("HedgeClips$Memory", "size", "I", false)
  | _ => ("HedgeClips$Memory", "next", "I", false)
def tyX4 : Nat → FieldType := fun k => match k with
  | 0 => .array (.object "HedgeClips$Garden")
  | 1 => .int
  | _ => .int
theorem nmX4 : ∀ a, a < 3 → ∀ b, b < 3 → a ≠ b → (TX4 a).2.1 ≠ (TX4 b).2.1 := by decide +kernel
theorem tyX4_ok : ∀ k, k < 3 → parseFieldDescriptor (TX4 k).2.2.1 = some (tyX4 k) := by decide +kernel
abbrev cX4_init : ByteArray := prog_6_method_1_code
def yX4_init : MethodName := ⟨RX4, "<init>", "()V"⟩
abbrev cX4_forget : ByteArray := prog_6_method_2_code
def yX4_forget : MethodName := ⟨RX4, "forget", "()V"⟩
abbrev cX4_keep : ByteArray := prog_6_method_3_code
def yX4_keep : MethodName := ⟨RX4, "keep", "(LHedgeClips$Garden;)V"⟩
abbrev cX4_givesBack : ByteArray := prog_6_method_4_code
def yX4_givesBack : MethodName := ⟨RX4, "givesBack", "(LHedgeClips$Garden;)Z"⟩
def RX5 : String := "HedgeClips$Outlook"
def TX5 : u_T := fun k => match k with
  | 0 => ("HedgeClips$Outlook", "stems", "I", true)
  | 1 => ("HedgeClips$Outlook", "wind", "I", true)
  | 2 => ("HedgeClips$Outlook", "clips", "[I", true)
  | 3 => ("HedgeClips$Outlook", "clipCount", "I", true)
  | _ => ("HedgeClips$Outlook", "known", "[B", true)
def tyX5 : Nat → FieldType := fun k => match k with
  | 0 => .int
  | 1 => .int
  | 2 => .array .int
  | 3 => .int
  | _ => .array .byte
theorem nmX5 : ∀ a, a < 5 → ∀ b, b < 5 → a ≠ b → (TX5 a).2.1 ≠ (TX5 b).2.1 := by decide +kernel
theorem tyX5_ok : ∀ k, k < 5 → parseFieldDescriptor (TX5 k).2.2.1 = some (tyX5 k) := by decide +kernel
abbrev cX5_init : ByteArray := prog_7_method_1_code
def yX5_init : MethodName := ⟨RX5, "<init>", "(III)V"⟩
abbrev cX5_possibleClips : ByteArray := prog_7_method_2_code
def yX5_possibleClips : MethodName := ⟨RX5, "possibleClips", "(I)I"⟩
abbrev cX5_bestClipOf : ByteArray := prog_7_method_3_code
def yX5_bestClipOf : MethodName := ⟨RX5, "bestClipOf", "(I)I"⟩
abbrev cX5_countBestClips : ByteArray := prog_7_method_4_code
def yX5_countBestClips : MethodName := ⟨RX5, "countBestClips", "(I)I"⟩
abbrev cX5_behindBestClip : ByteArray := prog_7_method_5_code
def yX5_behindBestClip : MethodName := ⟨RX5, "behindBestClip", "(I)I"⟩
abbrev cX5_worthAt : ByteArray := prog_7_method_6_code
def yX5_worthAt : MethodName := ⟨RX5, "worthAt", "(II)I"⟩
abbrev cX5_gainAt : ByteArray := prog_7_method_7_code
def yX5_gainAt : MethodName := ⟨RX5, "gainAt", "(III)I"⟩
def RX6 : String := "HedgeClips$Outlooks"
def TX6 : u_T := fun k => match k with
  | _ => ("HedgeClips$Outlooks", "made", "[LHedgeClips$Outlook;", true)
def tyX6 : Nat → FieldType := fun k => match k with
  | _ => .array (.object "HedgeClips$Outlook")
theorem nmX6 : ∀ a, a < 1 → ∀ b, b < 1 → a ≠ b → (TX6 a).2.1 ≠ (TX6 b).2.1 := by decide +kernel
theorem tyX6_ok : ∀ k, k < 1 → parseFieldDescriptor (TX6 k).2.2.1 = some (tyX6 k) := by decide +kernel
abbrev cX6_init : ByteArray := prog_8_method_1_code
def yX6_init : MethodName := ⟨RX6, "<init>", "()V"⟩
abbrev cX6_of : ByteArray := prog_8_method_2_code
def yX6_of : MethodName := ⟨RX6, "of", "(LHedgeClips$Garden;)LHedgeClips$Outlook;"⟩
def RX7 : String := "HedgeClips$Text"
def TX7 : u_T := fun k => match k with
  | 0 => ("HedgeClips$Text", "signs", "[C", true)
  | _ => ("HedgeClips$Text", "length", "I", false)
def tyX7 : Nat → FieldType := fun k => match k with
  | 0 => .array .char
  | _ => .int
theorem nmX7 : ∀ a, a < 2 → ∀ b, b < 2 → a ≠ b → (TX7 a).2.1 ≠ (TX7 b).2.1 := by decide +kernel
theorem tyX7_ok : ∀ k, k < 2 → parseFieldDescriptor (TX7 k).2.2.1 = some (tyX7 k) := by decide +kernel
abbrev cX7_init : ByteArray := prog_9_method_1_code
def yX7_init : MethodName := ⟨RX7, "<init>", "()V"⟩
abbrev cX7_takes : ByteArray := prog_9_method_2_code
def yX7_takes : MethodName := ⟨RX7, "takes", "(C)Z"⟩
abbrev cX7_at : ByteArray := prog_9_method_3_code
def yX7_at : MethodName := ⟨RX7, "at", "(I)I"⟩
abbrev cX7_digit : ByteArray := prog_9_method_4_code
def yX7_digit : MethodName := ⟨RX7, "digit", "(I)I"⟩
abbrev cX7_hasDigit : ByteArray := prog_9_method_5_code
def yX7_hasDigit : MethodName := ⟨RX7, "hasDigit", "(I)Z"⟩
abbrev cX7_isBetween : ByteArray := prog_9_method_6_code
def yX7_isBetween : MethodName := ⟨RX7, "isBetween", "(ICC)Z"⟩
abbrev cX7_behindStems : ByteArray := prog_9_method_7_code
def yX7_behindStems : MethodName := ⟨RX7, "behindStems", "()I"⟩
abbrev cX7_stems : ByteArray := prog_9_method_8_code
def yX7_stems : MethodName := ⟨RX7, "stems", "()I"⟩
abbrev cX7_hedge : ByteArray := prog_9_method_9_code
def yX7_hedge : MethodName := ⟨RX7, "hedge", "()I"⟩
abbrev cX7_firstFault : ByteArray := prog_9_method_10_code
def yX7_firstFault : MethodName := ⟨RX7, "firstFault", "()I"⟩
abbrev cX7_faultInCommand : ByteArray := prog_9_method_11_code
def yX7_faultInCommand : MethodName := ⟨RX7, "faultInCommand", "(I)I"⟩
abbrev cX7_isCommand : ByteArray := prog_9_method_12_code
def yX7_isCommand : MethodName := ⟨RX7, "isCommand", "(I)Z"⟩
abbrev cX7_digitsBehind : ByteArray := prog_9_method_13_code
def yX7_digitsBehind : MethodName := ⟨RX7, "digitsBehind", "(I)I"⟩
abbrev cX7_allowsDigit : ByteArray := prog_9_method_14_code
def yX7_allowsDigit : MethodName := ⟨RX7, "allowsDigit", "(III)Z"⟩
def RX8 : String := "HedgeClips"
def TX8 : u_T := fun k => match k with
  | 0 => ("HedgeClips", "now", "LHedgeClips$Garden;", true)
  | 1 => ("HedgeClips", "copy", "LHedgeClips$Garden;", true)
  | 2 => ("HedgeClips", "memory", "LHedgeClips$Memory;", true)
  | 3 => ("HedgeClips", "slots", "[LHedgeClips$Garden;", true)
  | 4 => ("HedgeClips", "text", "LHedgeClips$Text;", true)
  | _ => ("HedgeClips", "outlooks", "LHedgeClips$Outlooks;", true)
def tyX8 : Nat → FieldType := fun k => match k with
  | 0 => .object "HedgeClips$Garden"
  | 1 => .object "HedgeClips$Garden"
  | 2 => .object "HedgeClips$Memory"
  | 3 => .array (.object "HedgeClips$Garden")
  | 4 => .object "HedgeClips$Text"
  | _ => .object "HedgeClips$Outlooks"
theorem nmX8 : ∀ a, a < 6 → ∀ b, b < 6 → a ≠ b → (TX8 a).2.1 ≠ (TX8 b).2.1 := by decide +kernel
theorem tyX8_ok : ∀ k, k < 6 → parseFieldDescriptor (TX8 k).2.2.1 = some (tyX8 k) := by decide +kernel
abbrev cX8_init : ByteArray := prog_1_method_1_code
def yX8_init : MethodName := ⟨RX8, "<init>", "()V"⟩
abbrev cX8_append : ByteArray := prog_1_method_2_code
def yX8_append : MethodName := ⟨RX8, "append", "(I)I"⟩
abbrev cX8_load : ByteArray := prog_1_method_5_code
def yX8_load : MethodName := ⟨RX8, "load", "()I"⟩
abbrev cX8_obeyCommand : ByteArray := prog_1_method_6_code
def yX8_obeyCommand : MethodName := ⟨RX8, "obeyCommand", "(I)Z"⟩
abbrev cX8_about : ByteArray := prog_1_method_7_code
def yX8_about : MethodName := ⟨RX8, "about", "(I)I"⟩
abbrev cX8_leaves : ByteArray := prog_1_method_8_code
def yX8_leaves : MethodName := ⟨RX8, "leaves", "(I)I"⟩
abbrev cX8_gardener : ByteArray := prog_1_method_9_code
def yX8_gardener : MethodName := ⟨RX8, "gardener", "(II)I"⟩
abbrev cX8_setting : ByteArray := prog_1_method_10_code
def yX8_setting : MethodName := ⟨RX8, "setting", "(I)I"⟩
abbrev cX8_plant : ByteArray := prog_1_method_11_code
def yX8_plant : MethodName := ⟨RX8, "plant", "(II)I"⟩
abbrev cX8_clip : ByteArray := prog_1_method_12_code
def yX8_clip : MethodName := ⟨RX8, "clip", "(III)I"⟩
abbrev cX8_water : ByteArray := prog_1_method_13_code
def yX8_water : MethodName := ⟨RX8, "water", "(I)I"⟩
abbrev cX8_wind : ByteArray := prog_1_method_14_code
def yX8_wind : MethodName := ⟨RX8, "wind", "(I)I"⟩
abbrev cX8_pass : ByteArray := prog_1_method_15_code
def yX8_pass : MethodName := ⟨RX8, "pass", "()I"⟩
abbrev cX8_set : ByteArray := prog_1_method_16_code
def yX8_set : MethodName := ⟨RX8, "set", "(II)I"⟩
abbrev cX8_undo : ByteArray := prog_1_method_17_code
def yX8_undo : MethodName := ⟨RX8, "undo", "()I"⟩
abbrev cX8_ifClipped : ByteArray := prog_1_method_18_code
def yX8_ifClipped : MethodName := ⟨RX8, "ifClipped", "(IIII)I"⟩
abbrev cX8_worth : ByteArray := prog_1_method_19_code
def yX8_worth : MethodName := ⟨RX8, "worth", "()I"⟩
abbrev cX8_bestClip : ByteArray := prog_1_method_20_code
def yX8_bestClip : MethodName := ⟨RX8, "bestClip", "()I"⟩
abbrev cX8_bestClips : ByteArray := prog_1_method_21_code
def yX8_bestClips : MethodName := ⟨RX8, "bestClips", "()I"⟩
abbrev cX8_goesOn : ByteArray := prog_1_method_22_code
def yX8_goesOn : MethodName := ⟨RX8, "goesOn", "(II)I"⟩
abbrev cX8_bestWater : ByteArray := prog_1_method_23_code
def yX8_bestWater : MethodName := ⟨RX8, "bestWater", "()I"⟩
abbrev cX8_winner : ByteArray := prog_1_method_24_code
def yX8_winner : MethodName := ⟨RX8, "winner", "()I"⟩
abbrev cX8_worthOf : ByteArray := prog_1_method_25_code
def yX8_worthOf : MethodName := ⟨RX8, "worthOf", "(LHedgeClips$Garden;I)I"⟩
abbrev cX8_winnerOf : ByteArray := prog_1_method_26_code
def yX8_winnerOf : MethodName := ⟨RX8, "winnerOf", "(LHedgeClips$Garden;)I"⟩
abbrev cX8_triesBestClip : ByteArray := prog_1_method_27_code
def yX8_triesBestClip : MethodName := ⟨RX8, "triesBestClip", "(LHedgeClips$Garden;)Z"⟩
abbrev cX8_runScript : ByteArray := prog_1_method_28_code
def yX8_runScript : MethodName := ⟨RX8, "runScript", "(IJ)I"⟩
abbrev cX8_withoutGroups : ByteArray := prog_1_method_29_code
def yX8_withoutGroups : MethodName := ⟨RX8, "withoutGroups", "(JI)J"⟩
abbrev cX8_obeyGroup : ByteArray := prog_1_method_30_code
def yX8_obeyGroup : MethodName := ⟨RX8, "obeyGroup", "(I)Z"⟩
abbrev cX8_simulate : ByteArray := prog_1_method_31_code
def yX8_simulate : MethodName := ⟨RX8, "simulate", "(JI)I"⟩
abbrev cX8_simulateTurn : ByteArray := prog_1_method_32_code
def yX8_simulateTurn : MethodName := ⟨RX8, "simulateTurn", "(I)V"⟩
abbrev cX8_save : ByteArray := prog_1_method_33_code
def yX8_save : MethodName := ⟨RX8, "save", "(I)I"⟩
abbrev cX8_restore : ByteArray := prog_1_method_34_code
def yX8_restore : MethodName := ⟨RX8, "restore", "(I)I"⟩
abbrev cX8_requireStem : ByteArray := prog_1_method_35_code
def yX8_requireStem : MethodName := ⟨RX8, "requireStem", "(I)V"⟩
abbrev cX8_requireClip : ByteArray := prog_1_method_36_code
def yX8_requireClip : MethodName := ⟨RX8, "requireClip", "(III)V"⟩
abbrev cX8_requireSetting : ByteArray := prog_1_method_37_code
def yX8_requireSetting : MethodName := ⟨RX8, "requireSetting", "(I)V"⟩
def RX9 : String := "HedgeClipsModel"
def TX9 : u_T := fun k => match k with
  | _ => ("", "", "", false)
def tyX9 : Nat → FieldType := fun k => match k with
  | _ => .int
theorem nmX9 : ∀ a, a < 0 → ∀ b, b < 0 → a ≠ b → (TX9 a).2.1 ≠ (TX9 b).2.1 := by decide +kernel
theorem tyX9_ok : ∀ k, k < 0 → parseFieldDescriptor (TX9 k).2.2.1 = some (tyX9 k) := by decide +kernel
def RJ6 : String := "java/lang/Integer"
def TJ6 : u_T := fun k => match k with
  | _ => ("", "", "", false)
def tyJ6 : Nat → FieldType := fun k => match k with
  | _ => .int
abbrev wsJ60 : List Cond := u_ws RJ6 TJ6 0
theorem nmJ6 : ∀ a, a < 0 → ∀ b, b < 0 → a ≠ b → (TJ6 a).2.1 ≠ (TJ6 b).2.1 := by decide +kernel
theorem tyJ6_ok : ∀ k, k < 0 → parseFieldDescriptor (TJ6 k).2.2.1 = some (tyJ6 k) := by decide +kernel
abbrev cJ6_bitCount_0f7a4 : ByteArray := prog_16_method_49_code
def yJ6_bitCount_0f7a4 : MethodName := ⟨RJ6, "bitCount", "(I)I"⟩
def RJ9 : String := "java/lang/Math"
def TJ9 : u_T := fun k => match k with
  | _ => ("", "", "", false)
def tyJ9 : Nat → FieldType := fun k => match k with
  | _ => .int
abbrev wsJ90 : List Cond := u_ws RJ9 TJ9 0
theorem nmJ9 : ∀ a, a < 0 → ∀ b, b < 0 → a ≠ b → (TJ9 a).2.1 ≠ (TJ9 b).2.1 := by decide +kernel
theorem tyJ9_ok : ∀ k, k < 0 → parseFieldDescriptor (TJ9 k).2.2.1 = some (tyJ9 k) := by decide +kernel
abbrev cJ9_max_7cf53 : ByteArray := prog_17_method_65_code
def yJ9_max_7cf53 : MethodName := ⟨RJ9, "max", "(II)I"⟩
abbrev cJ9_min_7cf53 : ByteArray := prog_17_method_69_code
def yJ9_min_7cf53 : MethodName := ⟨RJ9, "min", "(II)I"⟩
def RJ0 : String := "java/lang/String"
def TJ0 : u_T := fun k => match k with
  | _ => ("", "", "", false)
def tyJ0 : Nat → FieldType := fun k => match k with
  | _ => .int
abbrev wsJ00 : List Cond := u_ws RJ0 TJ0 0
theorem nmJ0 : ∀ a, a < 0 → ∀ b, b < 0 → a ≠ b → (TJ0 a).2.1 ≠ (TJ0 b).2.1 := by decide +kernel
theorem tyJ0_ok : ∀ k, k < 0 → parseFieldDescriptor (TJ0 k).2.2.1 = some (tyJ0 k) := by decide +kernel
def RL : String := "HedgeClipsLaw"
abbrev cL_would : ByteArray := method_2_code
def yL_would : MethodName := ⟨RL, "would", "(LHedgeClips;IIII)I"⟩
abbrev cL_doScript : ByteArray := method_3_code
def yL_doScript : MethodName := ⟨RL, "doScript", "(LHedgeClips;IJ)I"⟩
abbrev cL_doSimulate : ByteArray := method_4_code
def yL_doSimulate : MethodName := ⟨RL, "doSimulate", "(LHedgeClips;JI)I"⟩
abbrev cL_tryAppend : ByteArray := method_5_code
def yL_tryAppend : MethodName := ⟨RL, "tryAppend", "(LHedgeClips;I)I"⟩
abbrev cL_tryLoad : ByteArray := method_6_code
def yL_tryLoad : MethodName := ⟨RL, "tryLoad", "(LHedgeClips;)I"⟩
abbrev cL_tryAbout : ByteArray := method_7_code
def yL_tryAbout : MethodName := ⟨RL, "tryAbout", "(LHedgeClips;I)I"⟩
abbrev cL_tryLeaves : ByteArray := method_8_code
def yL_tryLeaves : MethodName := ⟨RL, "tryLeaves", "(LHedgeClips;I)I"⟩
abbrev cL_tryWho : ByteArray := method_9_code
def yL_tryWho : MethodName := ⟨RL, "tryWho", "(LHedgeClips;II)I"⟩
abbrev cL_trySetting : ByteArray := method_10_code
def yL_trySetting : MethodName := ⟨RL, "trySetting", "(LHedgeClips;I)I"⟩
abbrev cL_tryPlant : ByteArray := method_11_code
def yL_tryPlant : MethodName := ⟨RL, "tryPlant", "(LHedgeClips;II)I"⟩
abbrev cL_tryClip : ByteArray := method_12_code
def yL_tryClip : MethodName := ⟨RL, "tryClip", "(LHedgeClips;III)I"⟩
abbrev cL_tryWater : ByteArray := method_13_code
def yL_tryWater : MethodName := ⟨RL, "tryWater", "(LHedgeClips;I)I"⟩
abbrev cL_tryWind : ByteArray := method_14_code
def yL_tryWind : MethodName := ⟨RL, "tryWind", "(LHedgeClips;I)I"⟩
abbrev cL_tryLay : ByteArray := method_15_code
def yL_tryLay : MethodName := ⟨RL, "tryLay", "(LHedgeClips;II)I"⟩
abbrev cL_tryUndo : ByteArray := method_16_code
def yL_tryUndo : MethodName := ⟨RL, "tryUndo", "(LHedgeClips;)I"⟩
abbrev cL_tryGoes : ByteArray := method_17_code
def yL_tryGoes : MethodName := ⟨RL, "tryGoes", "(LHedgeClips;II)I"⟩
abbrev cL_tryKeep : ByteArray := method_18_code
def yL_tryKeep : MethodName := ⟨RL, "tryKeep", "(LHedgeClips;I)I"⟩
abbrev cL_tryBack : ByteArray := method_19_code
def yL_tryBack : MethodName := ⟨RL, "tryBack", "(LHedgeClips;I)I"⟩
abbrev cL_call : ByteArray := method_20_code
def yL_call : MethodName := ⟨RL, "call", "(LHedgeClips;IIII)I"⟩
abbrev cL_cell : ByteArray := method_21_code
def yL_cell : MethodName := ⟨RL, "cell", "([II)I"⟩
abbrev cL_thrown : ByteArray := method_22_code
def yL_thrown : MethodName := ⟨RL, "thrown", "(I)Z"⟩
abbrev cL_refuses : ByteArray := method_23_code
def yL_refuses : MethodName := ⟨RL, "refuses", "(LHedgeClips;I)Z"⟩
abbrev cL_holds : ByteArray := method_24_code
def yL_holds : MethodName := ⟨RL, "holds", "(LHedgeClips;)Z"⟩
abbrev cL_act : ByteArray := method_25_code
def yL_act : MethodName := ⟨RL, "act", "(LHedgeClips;I)I"⟩
abbrev cL_alike : ByteArray := method_26_code
def yL_alike : MethodName := ⟨RL, "alike", "(LHedgeClips;LHedgeClips;I)Z"⟩
abbrev cL_law : ByteArray := code
def yL_law : MethodName := ⟨RL, "law", "([I)Z"⟩
abbrev cL_best : ByteArray := method_28_code
def yL_best : MethodName := ⟨RL, "best", "(LHedgeClips;LHedgeClips;)Z"⟩
abbrev cL_waters : ByteArray := method_29_code
def yL_waters : MethodName := ⟨RL, "waters", "(LHedgeClips;LHedgeClips;I)Z"⟩
abbrev vwCl : List vw_C := [(RX1, TX1, 8), (RX2, TX2, 3), (RX4, TX4, 3), (RX5, TX5, 5), (RX6, TX6, 1), (RX7, TX7, 2), (RX8, TX8, 6)]
end
section
theorem dX0_number_0 : decode cX0_number 0 = .ok (.bipush 100, 2) := by decide +kernel
theorem dX0_number_2 : decode cX0_number 2 = .ok (.iload_n 0, 1) := by decide +kernel
theorem dX0_number_3 : decode cX0_number 3 = .ok (.imul, 1) := by decide +kernel
theorem dX0_number_4 : decode cX0_number 4 = .ok (.bipush 10, 2) := by decide +kernel
theorem dX0_number_6 : decode cX0_number 6 = .ok (.iload_n 1, 1) := by decide +kernel
theorem dX0_number_7 : decode cX0_number 7 = .ok (.imul, 1) := by decide +kernel
theorem dX0_number_8 : decode cX0_number 8 = .ok (.iadd, 1) := by decide +kernel
theorem dX0_number_9 : decode cX0_number 9 = .ok (.iload_n 2, 1) := by decide +kernel
theorem dX0_number_10 : decode cX0_number 10 = .ok (.iadd, 1) := by decide +kernel
theorem dX0_number_11 : decode cX0_number 11 = .ok (.ireturn, 1) := by decide +kernel
theorem dX0_from_0 : decode cX0_from 0 = .ok (.iload_n 0, 1) := by decide +kernel
theorem dX0_from_1 : decode cX0_from 1 = .ok (.bipush 100, 2) := by decide +kernel
theorem dX0_from_3 : decode cX0_from 3 = .ok (.idiv, 1) := by decide +kernel
theorem dX0_from_4 : decode cX0_from 4 = .ok (.ireturn, 1) := by decide +kernel
theorem dX0_to_0 : decode cX0_to 0 = .ok (.iload_n 0, 1) := by decide +kernel
theorem dX0_to_1 : decode cX0_to 1 = .ok (.bipush 10, 2) := by decide +kernel
theorem dX0_to_3 : decode cX0_to 3 = .ok (.idiv, 1) := by decide +kernel
theorem dX0_to_4 : decode cX0_to 4 = .ok (.bipush 10, 2) := by decide +kernel
theorem dX0_to_6 : decode cX0_to 6 = .ok (.irem, 1) := by decide +kernel
theorem dX0_to_7 : decode cX0_to 7 = .ok (.ireturn, 1) := by decide +kernel
theorem dX0_lost_0 : decode cX0_lost 0 = .ok (.iload_n 0, 1) := by decide +kernel
theorem dX0_lost_1 : decode cX0_lost 1 = .ok (.bipush 10, 2) := by decide +kernel
theorem dX0_lost_3 : decode cX0_lost 3 = .ok (.irem, 1) := by decide +kernel
theorem dX0_lost_4 : decode cX0_lost 4 = .ok (.ireturn, 1) := by decide +kernel
theorem dX1_init_0 : decode cX1_init 0 = .ok (.aload_n 0, 1) := by decide +kernel
theorem dX1_init_1 : decode cX1_init 1 = .ok (.invokespecial 3, 3) := by decide +kernel
theorem dX1_init_4 : decode cX1_init 4 = .ok (.aload_n 0, 1) := by decide +kernel
theorem dX1_init_5 : decode cX1_init 5 = .ok (.new 9, 3) := by decide +kernel
theorem dX1_init_8 : decode cX1_init 8 = .ok (.dup, 1) := by decide +kernel
theorem dX1_init_9 : decode cX1_init 9 = .ok (.invokespecial 11, 3) := by decide +kernel
theorem dX1_init_12 : decode cX1_init 12 = .ok (.putfield 12, 3) := by decide +kernel
theorem dX1_init_15 : decode cX1_init 15 = .ok (.aload_n 0, 1) := by decide +kernel
theorem dX1_init_16 : decode cX1_init 16 = .ok (.new 9, 3) := by decide +kernel
theorem dX1_init_19 : decode cX1_init 19 = .ok (.dup, 1) := by decide +kernel
theorem dX1_init_20 : decode cX1_init 20 = .ok (.invokespecial 11, 3) := by decide +kernel
theorem dX1_init_23 : decode cX1_init 23 = .ok (.putfield 18, 3) := by decide +kernel
theorem dX1_init_26 : decode cX1_init 26 = .ok (.aload_n 0, 1) := by decide +kernel
theorem dX1_init_27 : decode cX1_init 27 = .ok (.iconst 4, 1) := by decide +kernel
theorem dX1_init_28 : decode cX1_init 28 = .ok (.sipush 170, 3) := by decide +kernel
theorem dX1_init_31 : decode cX1_init 31 = .ok (.invokevirtual 21, 3) := by decide +kernel
theorem dX1_init_34 : decode cX1_init 34 = .ok (.return_, 1) := by decide +kernel
theorem dX1_makeNew_0 : decode cX1_makeNew 0 = .ok (.aload_n 0, 1) := by decide +kernel
theorem dX1_makeNew_1 : decode cX1_makeNew 1 = .ok (.iconst 0, 1) := by decide +kernel
theorem dX1_makeNew_2 : decode cX1_makeNew 2 = .ok (.putfield 25, 3) := by decide +kernel
theorem dX1_makeNew_5 : decode cX1_makeNew 5 = .ok (.aload_n 0, 1) := by decide +kernel
theorem dX1_makeNew_6 : decode cX1_makeNew 6 = .ok (.iconst 3, 1) := by decide +kernel
theorem dX1_makeNew_7 : decode cX1_makeNew 7 = .ok (.putfield 29, 3) := by decide +kernel
theorem dX1_makeNew_10 : decode cX1_makeNew 10 = .ok (.aload_n 0, 1) := by decide +kernel
theorem dX1_makeNew_11 : decode cX1_makeNew 11 = .ok (.iconst 2, 1) := by decide +kernel
theorem dX1_makeNew_12 : decode cX1_makeNew 12 = .ok (.putfield 32, 3) := by decide +kernel
theorem dX1_makeNew_15 : decode cX1_makeNew 15 = .ok (.aload_n 0, 1) := by decide +kernel
theorem dX1_makeNew_16 : decode cX1_makeNew 16 = .ok (.iload_n 1, 1) := by decide +kernel
theorem dX1_makeNew_17 : decode cX1_makeNew 17 = .ok (.iload_n 2, 1) := by decide +kernel
theorem dX1_makeNew_18 : decode cX1_makeNew 18 = .ok (.invokevirtual 35, 3) := by decide +kernel
theorem dX1_makeNew_21 : decode cX1_makeNew 21 = .ok (.return_, 1) := by decide +kernel
theorem dX1_replant_0 : decode cX1_replant 0 = .ok (.aload_n 0, 1) := by decide +kernel
theorem dX1_replant_1 : decode cX1_replant 1 = .ok (.iload_n 1, 1) := by decide +kernel
theorem dX1_replant_2 : decode cX1_replant 2 = .ok (.putfield 38, 3) := by decide +kernel
theorem dX1_replant_5 : decode cX1_replant 5 = .ok (.aload_n 0, 1) := by decide +kernel
theorem dX1_replant_6 : decode cX1_replant 6 = .ok (.iload_n 2, 1) := by decide +kernel
theorem dX1_replant_7 : decode cX1_replant 7 = .ok (.putfield 41, 3) := by decide +kernel
theorem dX1_replant_10 : decode cX1_replant 10 = .ok (.aload_n 0, 1) := by decide +kernel
theorem dX1_replant_11 : decode cX1_replant 11 = .ok (.iconst 0, 1) := by decide +kernel
theorem dX1_replant_12 : decode cX1_replant 12 = .ok (.putfield 44, 3) := by decide +kernel
theorem dX1_replant_15 : decode cX1_replant 15 = .ok (.aload_n 0, 1) := by decide +kernel
theorem dX1_replant_16 : decode cX1_replant 16 = .ok (.getfield 12, 3) := by decide +kernel
theorem dX1_replant_19 : decode cX1_replant 19 = .ok (.invokevirtual 47, 3) := by decide +kernel
theorem dX1_replant_22 : decode cX1_replant 22 = .ok (.aload_n 0, 1) := by decide +kernel
theorem dX1_replant_23 : decode cX1_replant 23 = .ok (.getfield 18, 3) := by decide +kernel
theorem dX1_replant_26 : decode cX1_replant 26 = .ok (.invokevirtual 47, 3) := by decide +kernel
theorem dX1_replant_29 : decode cX1_replant 29 = .ok (.return_, 1) := by decide +kernel
theorem dX1_becomes_0 : decode cX1_becomes 0 = .ok (.aload_n 0, 1) := by decide +kernel
theorem dX1_becomes_1 : decode cX1_becomes 1 = .ok (.aload_n 1, 1) := by decide +kernel
theorem dX1_becomes_2 : decode cX1_becomes 2 = .ok (.getfield 38, 3) := by decide +kernel
theorem dX1_becomes_5 : decode cX1_becomes 5 = .ok (.putfield 38, 3) := by decide +kernel
theorem dX1_becomes_8 : decode cX1_becomes 8 = .ok (.aload_n 0, 1) := by decide +kernel
theorem dX1_becomes_9 : decode cX1_becomes 9 = .ok (.aload_n 1, 1) := by decide +kernel
theorem dX1_becomes_10 : decode cX1_becomes 10 = .ok (.getfield 41, 3) := by decide +kernel
theorem dX1_becomes_13 : decode cX1_becomes 13 = .ok (.putfield 41, 3) := by decide +kernel
theorem dX1_becomes_16 : decode cX1_becomes 16 = .ok (.aload_n 0, 1) := by decide +kernel
theorem dX1_becomes_17 : decode cX1_becomes 17 = .ok (.aload_n 1, 1) := by decide +kernel
theorem dX1_becomes_18 : decode cX1_becomes 18 = .ok (.getfield 25, 3) := by decide +kernel
theorem dX1_becomes_21 : decode cX1_becomes 21 = .ok (.putfield 25, 3) := by decide +kernel
theorem dX1_becomes_24 : decode cX1_becomes 24 = .ok (.aload_n 0, 1) := by decide +kernel
theorem dX1_becomes_25 : decode cX1_becomes 25 = .ok (.aload_n 1, 1) := by decide +kernel
theorem dX1_becomes_26 : decode cX1_becomes 26 = .ok (.getfield 44, 3) := by decide +kernel
theorem dX1_becomes_29 : decode cX1_becomes 29 = .ok (.putfield 44, 3) := by decide +kernel
theorem dX1_becomes_32 : decode cX1_becomes 32 = .ok (.aload_n 0, 1) := by decide +kernel
theorem dX1_becomes_33 : decode cX1_becomes 33 = .ok (.aload_n 1, 1) := by decide +kernel
theorem dX1_becomes_34 : decode cX1_becomes 34 = .ok (.getfield 29, 3) := by decide +kernel
theorem dX1_becomes_37 : decode cX1_becomes 37 = .ok (.putfield 29, 3) := by decide +kernel
theorem dX1_becomes_40 : decode cX1_becomes 40 = .ok (.aload_n 0, 1) := by decide +kernel
theorem dX1_becomes_41 : decode cX1_becomes 41 = .ok (.aload_n 1, 1) := by decide +kernel
theorem dX1_becomes_42 : decode cX1_becomes 42 = .ok (.getfield 32, 3) := by decide +kernel
theorem dX1_becomes_45 : decode cX1_becomes 45 = .ok (.putfield 32, 3) := by decide +kernel
theorem dX1_becomes_48 : decode cX1_becomes 48 = .ok (.aload_n 0, 1) := by decide +kernel
theorem dX1_becomes_49 : decode cX1_becomes 49 = .ok (.getfield 12, 3) := by decide +kernel
theorem dX1_becomes_52 : decode cX1_becomes 52 = .ok (.aload_n 1, 1) := by decide +kernel
theorem dX1_becomes_53 : decode cX1_becomes 53 = .ok (.getfield 12, 3) := by decide +kernel
theorem dX1_becomes_56 : decode cX1_becomes 56 = .ok (.invokevirtual 49, 3) := by decide +kernel
theorem dX1_becomes_59 : decode cX1_becomes 59 = .ok (.aload_n 0, 1) := by decide +kernel
theorem dX1_becomes_60 : decode cX1_becomes 60 = .ok (.getfield 18, 3) := by decide +kernel
theorem dX1_becomes_63 : decode cX1_becomes 63 = .ok (.aload_n 1, 1) := by decide +kernel
theorem dX1_becomes_64 : decode cX1_becomes 64 = .ok (.getfield 18, 3) := by decide +kernel
theorem dX1_becomes_67 : decode cX1_becomes 67 = .ok (.invokevirtual 49, 3) := by decide +kernel
theorem dX1_becomes_70 : decode cX1_becomes 70 = .ok (.return_, 1) := by decide +kernel
theorem dX1_hasGardener_0 : decode cX1_hasGardener 0 = .ok (.iload_n 0, 1) := by decide +kernel
theorem dX1_hasGardener_1 : decode cX1_hasGardener 1 = .ok (.ifCond .eq 8, 3) := by decide +kernel
theorem dX1_hasGardener_4 : decode cX1_hasGardener 4 = .ok (.iload_n 0, 1) := by decide +kernel
theorem dX1_hasGardener_5 : decode cX1_hasGardener 5 = .ok (.iconst 1, 1) := by decide +kernel
theorem dX1_hasGardener_6 : decode cX1_hasGardener 6 = .ok (.if_icmp .ne 7, 3) := by decide +kernel
theorem dX1_hasGardener_9 : decode cX1_hasGardener 9 = .ok (.iconst 1, 1) := by decide +kernel
theorem dX1_hasGardener_10 : decode cX1_hasGardener 10 = .ok (.goto 4, 3) := by decide +kernel
theorem dX1_hasGardener_13 : decode cX1_hasGardener 13 = .ok (.iconst 0, 1) := by decide +kernel
theorem dX1_hasGardener_14 : decode cX1_hasGardener 14 = .ok (.ireturn, 1) := by decide +kernel
theorem dX1_isWind_0 : decode cX1_isWind 0 = .ok (.iload_n 0, 1) := by decide +kernel
theorem dX1_isWind_1 : decode cX1_isWind 1 = .ok (.ifCond .lt 12, 3) := by decide +kernel
theorem dX1_isWind_4 : decode cX1_isWind 4 = .ok (.iload_n 0, 1) := by decide +kernel
theorem dX1_isWind_5 : decode cX1_isWind 5 = .ok (.iconst 3, 1) := by decide +kernel
theorem dX1_isWind_6 : decode cX1_isWind 6 = .ok (.if_icmp .ge 7, 3) := by decide +kernel
theorem dX1_isWind_9 : decode cX1_isWind 9 = .ok (.iconst 1, 1) := by decide +kernel
theorem dX1_isWind_10 : decode cX1_isWind 10 = .ok (.goto 4, 3) := by decide +kernel
theorem dX1_isWind_13 : decode cX1_isWind 13 = .ok (.iconst 0, 1) := by decide +kernel
theorem dX1_isWind_14 : decode cX1_isWind 14 = .ok (.ireturn, 1) := by decide +kernel
theorem dX1_who_0 : decode cX1_who 0 = .ok (.iload_n 1, 1) := by decide +kernel
theorem dX1_who_1 : decode cX1_who 1 = .ok (.ifCond .ne 10, 3) := by decide +kernel
theorem dX1_who_4 : decode cX1_who 4 = .ok (.aload_n 0, 1) := by decide +kernel
theorem dX1_who_5 : decode cX1_who 5 = .ok (.getfield 12, 3) := by decide +kernel
theorem dX1_who_8 : decode cX1_who 8 = .ok (.goto 7, 3) := by decide +kernel
theorem dX1_who_11 : decode cX1_who 11 = .ok (.aload_n 0, 1) := by decide +kernel
theorem dX1_who_12 : decode cX1_who 12 = .ok (.getfield 18, 3) := by decide +kernel
theorem dX1_who_15 : decode cX1_who 15 = .ok (.areturn, 1) := by decide +kernel
theorem dX1_hasStem_0 : decode cX1_hasStem 0 = .ok (.iload_n 1, 1) := by decide +kernel
theorem dX1_hasStem_1 : decode cX1_hasStem 1 = .ok (.ifCond .lt 15, 3) := by decide +kernel
theorem dX1_hasStem_4 : decode cX1_hasStem 4 = .ok (.iload_n 1, 1) := by decide +kernel
theorem dX1_hasStem_5 : decode cX1_hasStem 5 = .ok (.aload_n 0, 1) := by decide +kernel
theorem dX1_hasStem_6 : decode cX1_hasStem 6 = .ok (.getfield 38, 3) := by decide +kernel
theorem dX1_hasStem_9 : decode cX1_hasStem 9 = .ok (.if_icmp .ge 7, 3) := by decide +kernel
theorem dX1_hasStem_12 : decode cX1_hasStem 12 = .ok (.iconst 1, 1) := by decide +kernel
theorem dX1_hasStem_13 : decode cX1_hasStem 13 = .ok (.goto 4, 3) := by decide +kernel
theorem dX1_hasStem_16 : decode cX1_hasStem 16 = .ok (.iconst 0, 1) := by decide +kernel
theorem dX1_hasStem_17 : decode cX1_hasStem 17 = .ok (.ireturn, 1) := by decide +kernel
theorem dX1_allowsClip_0 : decode cX1_allowsClip 0 = .ok (.iload_n 3, 1) := by decide +kernel
theorem dX1_allowsClip_1 : decode cX1_allowsClip 1 = .ok (.iconst 1, 1) := by decide +kernel
theorem dX1_allowsClip_2 : decode cX1_allowsClip 2 = .ok (.if_icmp .lt 27, 3) := by decide +kernel
theorem dX1_allowsClip_5 : decode cX1_allowsClip 5 = .ok (.iload_n 3, 1) := by decide +kernel
theorem dX1_allowsClip_6 : decode cX1_allowsClip 6 = .ok (.iconst 3, 1) := by decide +kernel
theorem dX1_allowsClip_7 : decode cX1_allowsClip 7 = .ok (.if_icmp .gt 22, 3) := by decide +kernel
theorem dX1_allowsClip_10 : decode cX1_allowsClip 10 = .ok (.iload_n 2, 1) := by decide +kernel
theorem dX1_allowsClip_11 : decode cX1_allowsClip 11 = .ok (.iload_n 1, 1) := by decide +kernel
theorem dX1_allowsClip_12 : decode cX1_allowsClip 12 = .ok (.if_icmp .lt 17, 3) := by decide +kernel
theorem dX1_allowsClip_15 : decode cX1_allowsClip 15 = .ok (.iload_n 2, 1) := by decide +kernel
theorem dX1_allowsClip_16 : decode cX1_allowsClip 16 = .ok (.iload_n 1, 1) := by decide +kernel
theorem dX1_allowsClip_17 : decode cX1_allowsClip 17 = .ok (.isub, 1) := by decide +kernel
theorem dX1_allowsClip_18 : decode cX1_allowsClip 18 = .ok (.aload_n 0, 1) := by decide +kernel
theorem dX1_allowsClip_19 : decode cX1_allowsClip 19 = .ok (.getfield 32, 3) := by decide +kernel
theorem dX1_allowsClip_22 : decode cX1_allowsClip 22 = .ok (.if_icmp .ge 7, 3) := by decide +kernel
theorem dX1_allowsClip_25 : decode cX1_allowsClip 25 = .ok (.iconst 1, 1) := by decide +kernel
theorem dX1_allowsClip_26 : decode cX1_allowsClip 26 = .ok (.goto 4, 3) := by decide +kernel
theorem dX1_allowsClip_29 : decode cX1_allowsClip 29 = .ok (.iconst 0, 1) := by decide +kernel
theorem dX1_allowsClip_30 : decode cX1_allowsClip 30 = .ok (.ireturn, 1) := by decide +kernel
theorem dX1_isOver_0 : decode cX1_isOver 0 = .ok (.aload_n 0, 1) := by decide +kernel
theorem dX1_isOver_1 : decode cX1_isOver 1 = .ok (.getfield 41, 3) := by decide +kernel
theorem dX1_isOver_4 : decode cX1_isOver 4 = .ok (.ifCond .ne 7, 3) := by decide +kernel
theorem dX1_isOver_7 : decode cX1_isOver 7 = .ok (.iconst 1, 1) := by decide +kernel
theorem dX1_isOver_8 : decode cX1_isOver 8 = .ok (.goto 4, 3) := by decide +kernel
theorem dX1_isOver_11 : decode cX1_isOver 11 = .ok (.iconst 0, 1) := by decide +kernel
theorem dX1_isOver_12 : decode cX1_isOver 12 = .ok (.ireturn, 1) := by decide +kernel
theorem dX1_allClips_0 : decode cX1_allClips 0 = .ok (.aload_n 0, 1) := by decide +kernel
theorem dX1_allClips_1 : decode cX1_allClips 1 = .ok (.getfield 12, 3) := by decide +kernel
theorem dX1_allClips_4 : decode cX1_allClips 4 = .ok (.getfield 53, 3) := by decide +kernel
theorem dX1_allClips_7 : decode cX1_allClips 7 = .ok (.aload_n 0, 1) := by decide +kernel
theorem dX1_allClips_8 : decode cX1_allClips 8 = .ok (.getfield 18, 3) := by decide +kernel
theorem dX1_allClips_11 : decode cX1_allClips 11 = .ok (.getfield 53, 3) := by decide +kernel
theorem dX1_allClips_14 : decode cX1_allClips 14 = .ok (.iadd, 1) := by decide +kernel
theorem dX1_allClips_15 : decode cX1_allClips 15 = .ok (.ireturn, 1) := by decide +kernel
theorem dX1_allFines_0 : decode cX1_allFines 0 = .ok (.aload_n 0, 1) := by decide +kernel
theorem dX1_allFines_1 : decode cX1_allFines 1 = .ok (.getfield 12, 3) := by decide +kernel
theorem dX1_allFines_4 : decode cX1_allFines 4 = .ok (.getfield 56, 3) := by decide +kernel
theorem dX1_allFines_7 : decode cX1_allFines 7 = .ok (.aload_n 0, 1) := by decide +kernel
theorem dX1_allFines_8 : decode cX1_allFines 8 = .ok (.getfield 18, 3) := by decide +kernel
theorem dX1_allFines_11 : decode cX1_allFines 11 = .ok (.getfield 56, 3) := by decide +kernel
theorem dX1_allFines_14 : decode cX1_allFines 14 = .ok (.iadd, 1) := by decide +kernel
theorem dX1_allFines_15 : decode cX1_allFines 15 = .ok (.ireturn, 1) := by decide +kernel
theorem dX1_doClip_0 : decode cX1_doClip 0 = .ok (.aload_n 0, 1) := by decide +kernel
theorem dX1_doClip_1 : decode cX1_doClip 1 = .ok (.getfield 41, 3) := by decide +kernel
theorem dX1_doClip_4 : decode cX1_doClip 4 = .ok (.iload_n 1, 1) := by decide +kernel
theorem dX1_doClip_5 : decode cX1_doClip 5 = .ok (.invokestatic 59, 3) := by decide +kernel
theorem dX1_doClip_8 : decode cX1_doClip 8 = .ok (.aload_n 0, 1) := by decide +kernel
theorem dX1_doClip_9 : decode cX1_doClip 9 = .ok (.getfield 38, 3) := by decide +kernel
theorem dX1_doClip_12 : decode cX1_doClip 12 = .ok (.aload_n 0, 1) := by decide +kernel
theorem dX1_doClip_13 : decode cX1_doClip 13 = .ok (.getfield 25, 3) := by decide +kernel
theorem dX1_doClip_16 : decode cX1_doClip 16 = .ok (.invokestatic 65, 3) := by decide +kernel
theorem dX1_doClip_19 : decode cX1_doClip 19 = .ok (.istore_n 2, 1) := by decide +kernel
theorem dX1_doClip_20 : decode cX1_doClip 20 = .ok (.aload_n 0, 1) := by decide +kernel
theorem dX1_doClip_21 : decode cX1_doClip 21 = .ok (.getfield 29, 3) := by decide +kernel
theorem dX1_doClip_24 : decode cX1_doClip 24 = .ok (.aload_n 0, 1) := by decide +kernel
theorem dX1_doClip_25 : decode cX1_doClip 25 = .ok (.getfield 41, 3) := by decide +kernel
theorem dX1_doClip_28 : decode cX1_doClip 28 = .ok (.iload_n 2, 1) := by decide +kernel
theorem dX1_doClip_29 : decode cX1_doClip 29 = .ok (.invokestatic 69, 3) := by decide +kernel
theorem dX1_doClip_32 : decode cX1_doClip 32 = .ok (.imul, 1) := by decide +kernel
theorem dX1_doClip_33 : decode cX1_doClip 33 = .ok (.istore_n 3, 1) := by decide +kernel
theorem dX1_doClip_34 : decode cX1_doClip 34 = .ok (.aload_n 0, 1) := by decide +kernel
theorem dX1_doClip_35 : decode cX1_doClip 35 = .ok (.aload_n 0, 1) := by decide +kernel
theorem dX1_doClip_36 : decode cX1_doClip 36 = .ok (.getfield 44, 3) := by decide +kernel
theorem dX1_doClip_39 : decode cX1_doClip 39 = .ok (.invokevirtual 72, 3) := by decide +kernel
theorem dX1_doClip_42 : decode cX1_doClip 42 = .ok (.astore 4, 2) := by decide +kernel
theorem dX1_doClip_44 : decode cX1_doClip 44 = .ok (.aload 4, 2) := by decide +kernel
theorem dX1_doClip_46 : decode cX1_doClip 46 = .ok (.dup, 1) := by decide +kernel
theorem dX1_doClip_47 : decode cX1_doClip 47 = .ok (.getfield 56, 3) := by decide +kernel
theorem dX1_doClip_50 : decode cX1_doClip 50 = .ok (.iload_n 3, 1) := by decide +kernel
theorem dX1_doClip_51 : decode cX1_doClip 51 = .ok (.iadd, 1) := by decide +kernel
theorem dX1_doClip_52 : decode cX1_doClip 52 = .ok (.putfield 56, 3) := by decide +kernel
theorem dX1_doClip_55 : decode cX1_doClip 55 = .ok (.aload 4, 2) := by decide +kernel
theorem dX1_doClip_57 : decode cX1_doClip 57 = .ok (.dup, 1) := by decide +kernel
theorem dX1_doClip_58 : decode cX1_doClip 58 = .ok (.getfield 53, 3) := by decide +kernel
theorem dX1_doClip_61 : decode cX1_doClip 61 = .ok (.iconst 1, 1) := by decide +kernel
theorem dX1_doClip_62 : decode cX1_doClip 62 = .ok (.iadd, 1) := by decide +kernel
theorem dX1_doClip_63 : decode cX1_doClip 63 = .ok (.putfield 53, 3) := by decide +kernel
theorem dX1_doClip_66 : decode cX1_doClip 66 = .ok (.aload 4, 2) := by decide +kernel
theorem dX1_doClip_68 : decode cX1_doClip 68 = .ok (.dup, 1) := by decide +kernel
theorem dX1_doClip_69 : decode cX1_doClip 69 = .ok (.getfield 76, 3) := by decide +kernel
theorem dX1_doClip_72 : decode cX1_doClip 72 = .ok (.aload_n 0, 1) := by decide +kernel
theorem dX1_doClip_73 : decode cX1_doClip 73 = .ok (.getfield 41, 3) := by decide +kernel
theorem dX1_doClip_76 : decode cX1_doClip 76 = .ok (.invokestatic 79, 3) := by decide +kernel
theorem dX1_doClip_79 : decode cX1_doClip 79 = .ok (.iload_n 2, 1) := by decide +kernel
theorem dX1_doClip_80 : decode cX1_doClip 80 = .ok (.invokestatic 79, 3) := by decide +kernel
theorem dX1_doClip_83 : decode cX1_doClip 83 = .ok (.isub, 1) := by decide +kernel
theorem dX1_doClip_84 : decode cX1_doClip 84 = .ok (.iadd, 1) := by decide +kernel
theorem dX1_doClip_85 : decode cX1_doClip 85 = .ok (.putfield 76, 3) := by decide +kernel
theorem dX1_doClip_88 : decode cX1_doClip 88 = .ok (.aload_n 0, 1) := by decide +kernel
theorem dX1_doClip_89 : decode cX1_doClip 89 = .ok (.iload_n 2, 1) := by decide +kernel
theorem dX1_doClip_90 : decode cX1_doClip 90 = .ok (.putfield 41, 3) := by decide +kernel
theorem dX1_doClip_93 : decode cX1_doClip 93 = .ok (.aload_n 0, 1) := by decide +kernel
theorem dX1_doClip_94 : decode cX1_doClip 94 = .ok (.invokevirtual 83, 3) := by decide +kernel
theorem dX1_doClip_97 : decode cX1_doClip 97 = .ok (.iload_n 3, 1) := by decide +kernel
theorem dX1_doClip_98 : decode cX1_doClip 98 = .ok (.ireturn, 1) := by decide +kernel
theorem dX1_turnOver_0 : decode cX1_turnOver 0 = .ok (.aload_n 0, 1) := by decide +kernel
theorem dX1_turnOver_1 : decode cX1_turnOver 1 = .ok (.iconst 1, 1) := by decide +kernel
theorem dX1_turnOver_2 : decode cX1_turnOver 2 = .ok (.aload_n 0, 1) := by decide +kernel
theorem dX1_turnOver_3 : decode cX1_turnOver 3 = .ok (.getfield 44, 3) := by decide +kernel
theorem dX1_turnOver_6 : decode cX1_turnOver 6 = .ok (.isub, 1) := by decide +kernel
theorem dX1_turnOver_7 : decode cX1_turnOver 7 = .ok (.putfield 44, 3) := by decide +kernel
theorem dX1_turnOver_10 : decode cX1_turnOver 10 = .ok (.return_, 1) := by decide +kernel
theorem dX1_triesClip_0 : decode cX1_triesClip 0 = .ok (.aload_n 0, 1) := by decide +kernel
theorem dX1_triesClip_1 : decode cX1_triesClip 1 = .ok (.iload_n 1, 1) := by decide +kernel
theorem dX1_triesClip_2 : decode cX1_triesClip 2 = .ok (.invokevirtual 86, 3) := by decide +kernel
theorem dX1_triesClip_5 : decode cX1_triesClip 5 = .ok (.ifCond .eq 33, 3) := by decide +kernel
theorem dX1_triesClip_8 : decode cX1_triesClip 8 = .ok (.aload_n 0, 1) := by decide +kernel
theorem dX1_triesClip_9 : decode cX1_triesClip 9 = .ok (.iload_n 2, 1) := by decide +kernel
theorem dX1_triesClip_10 : decode cX1_triesClip 10 = .ok (.invokevirtual 86, 3) := by decide +kernel
theorem dX1_triesClip_13 : decode cX1_triesClip 13 = .ok (.ifCond .eq 25, 3) := by decide +kernel
theorem dX1_triesClip_16 : decode cX1_triesClip 16 = .ok (.aload_n 0, 1) := by decide +kernel
theorem dX1_triesClip_17 : decode cX1_triesClip 17 = .ok (.iload_n 1, 1) := by decide +kernel
theorem dX1_triesClip_18 : decode cX1_triesClip 18 = .ok (.iload_n 2, 1) := by decide +kernel
theorem dX1_triesClip_19 : decode cX1_triesClip 19 = .ok (.iload_n 3, 1) := by decide +kernel
theorem dX1_triesClip_20 : decode cX1_triesClip 20 = .ok (.invokevirtual 90, 3) := by decide +kernel
theorem dX1_triesClip_23 : decode cX1_triesClip 23 = .ok (.ifCond .eq 15, 3) := by decide +kernel
theorem dX1_triesClip_26 : decode cX1_triesClip 26 = .ok (.aload_n 0, 1) := by decide +kernel
theorem dX1_triesClip_27 : decode cX1_triesClip 27 = .ok (.getfield 41, 3) := by decide +kernel
theorem dX1_triesClip_30 : decode cX1_triesClip 30 = .ok (.iload_n 1, 1) := by decide +kernel
theorem dX1_triesClip_31 : decode cX1_triesClip 31 = .ok (.iload_n 2, 1) := by decide +kernel
theorem dX1_triesClip_32 : decode cX1_triesClip 32 = .ok (.invokestatic 94, 3) := by decide +kernel
theorem dX1_triesClip_35 : decode cX1_triesClip 35 = .ok (.ifCond .ne 5, 3) := by decide +kernel
theorem dX1_triesClip_38 : decode cX1_triesClip 38 = .ok (.iconst 0, 1) := by decide +kernel
theorem dX1_triesClip_39 : decode cX1_triesClip 39 = .ok (.ireturn, 1) := by decide +kernel
theorem dX1_triesClip_40 : decode cX1_triesClip 40 = .ok (.aload_n 0, 1) := by decide +kernel
theorem dX1_triesClip_41 : decode cX1_triesClip 41 = .ok (.iload_n 1, 1) := by decide +kernel
theorem dX1_triesClip_42 : decode cX1_triesClip 42 = .ok (.iload_n 2, 1) := by decide +kernel
theorem dX1_triesClip_43 : decode cX1_triesClip 43 = .ok (.iload_n 3, 1) := by decide +kernel
theorem dX1_triesClip_44 : decode cX1_triesClip 44 = .ok (.invokestatic 97, 3) := by decide +kernel
theorem dX1_triesClip_47 : decode cX1_triesClip 47 = .ok (.invokevirtual 102, 3) := by decide +kernel
theorem dX1_triesClip_50 : decode cX1_triesClip 50 = .ok (.pop, 1) := by decide +kernel
theorem dX1_triesClip_51 : decode cX1_triesClip 51 = .ok (.iconst 1, 1) := by decide +kernel
theorem dX1_triesClip_52 : decode cX1_triesClip 52 = .ok (.ireturn, 1) := by decide +kernel
theorem dX1_triesWater_0 : decode cX1_triesWater 0 = .ok (.aload_n 0, 1) := by decide +kernel
theorem dX1_triesWater_1 : decode cX1_triesWater 1 = .ok (.iload_n 1, 1) := by decide +kernel
theorem dX1_triesWater_2 : decode cX1_triesWater 2 = .ok (.invokevirtual 86, 3) := by decide +kernel
theorem dX1_triesWater_5 : decode cX1_triesWater 5 = .ok (.ifCond .eq 14, 3) := by decide +kernel
theorem dX1_triesWater_8 : decode cX1_triesWater 8 = .ok (.aload_n 0, 1) := by decide +kernel
theorem dX1_triesWater_9 : decode cX1_triesWater 9 = .ok (.getfield 41, 3) := by decide +kernel
theorem dX1_triesWater_12 : decode cX1_triesWater 12 = .ok (.iload_n 1, 1) := by decide +kernel
theorem dX1_triesWater_13 : decode cX1_triesWater 13 = .ok (.invokestatic 105, 3) := by decide +kernel
theorem dX1_triesWater_16 : decode cX1_triesWater 16 = .ok (.ifCond .eq 5, 3) := by decide +kernel
theorem dX1_triesWater_19 : decode cX1_triesWater 19 = .ok (.iconst 0, 1) := by decide +kernel
theorem dX1_triesWater_20 : decode cX1_triesWater 20 = .ok (.ireturn, 1) := by decide +kernel
theorem dX1_triesWater_21 : decode cX1_triesWater 21 = .ok (.aload_n 0, 1) := by decide +kernel
theorem dX1_triesWater_22 : decode cX1_triesWater 22 = .ok (.aload_n 0, 1) := by decide +kernel
theorem dX1_triesWater_23 : decode cX1_triesWater 23 = .ok (.getfield 41, 3) := by decide +kernel
theorem dX1_triesWater_26 : decode cX1_triesWater 26 = .ok (.iload_n 1, 1) := by decide +kernel
theorem dX1_triesWater_27 : decode cX1_triesWater 27 = .ok (.invokestatic 109, 3) := by decide +kernel
theorem dX1_triesWater_30 : decode cX1_triesWater 30 = .ok (.putfield 41, 3) := by decide +kernel
theorem dX1_triesWater_33 : decode cX1_triesWater 33 = .ok (.iconst 1, 1) := by decide +kernel
theorem dX1_triesWater_34 : decode cX1_triesWater 34 = .ok (.ireturn, 1) := by decide +kernel
theorem dX1_triesWind_0 : decode cX1_triesWind 0 = .ok (.iload_n 1, 1) := by decide +kernel
theorem dX1_triesWind_1 : decode cX1_triesWind 1 = .ok (.invokestatic 112, 3) := by decide +kernel
theorem dX1_triesWind_4 : decode cX1_triesWind 4 = .ok (.ifCond .ne 5, 3) := by decide +kernel
theorem dX1_triesWind_7 : decode cX1_triesWind 7 = .ok (.iconst 0, 1) := by decide +kernel
theorem dX1_triesWind_8 : decode cX1_triesWind 8 = .ok (.ireturn, 1) := by decide +kernel
theorem dX1_triesWind_9 : decode cX1_triesWind 9 = .ok (.aload_n 0, 1) := by decide +kernel
theorem dX1_triesWind_10 : decode cX1_triesWind 10 = .ok (.iload_n 1, 1) := by decide +kernel
theorem dX1_triesWind_11 : decode cX1_triesWind 11 = .ok (.putfield 25, 3) := by decide +kernel
theorem dX1_triesWind_14 : decode cX1_triesWind 14 = .ok (.iconst 1, 1) := by decide +kernel
theorem dX1_triesWind_15 : decode cX1_triesWind 15 = .ok (.ireturn, 1) := by decide +kernel
theorem dX2_init_0 : decode cX2_init 0 = .ok (.aload_n 0, 1) := by decide +kernel
theorem dX2_init_1 : decode cX2_init 1 = .ok (.invokespecial 1, 3) := by decide +kernel
theorem dX2_init_4 : decode cX2_init 4 = .ok (.return_, 1) := by decide +kernel
theorem dX2_becomes_0 : decode cX2_becomes 0 = .ok (.aload_n 0, 1) := by decide +kernel
theorem dX2_becomes_1 : decode cX2_becomes 1 = .ok (.aload_n 1, 1) := by decide +kernel
theorem dX2_becomes_2 : decode cX2_becomes 2 = .ok (.getfield 7, 3) := by decide +kernel
theorem dX2_becomes_5 : decode cX2_becomes 5 = .ok (.putfield 7, 3) := by decide +kernel
theorem dX2_becomes_8 : decode cX2_becomes 8 = .ok (.aload_n 0, 1) := by decide +kernel
theorem dX2_becomes_9 : decode cX2_becomes 9 = .ok (.aload_n 1, 1) := by decide +kernel
theorem dX2_becomes_10 : decode cX2_becomes 10 = .ok (.getfield 13, 3) := by decide +kernel
theorem dX2_becomes_13 : decode cX2_becomes 13 = .ok (.putfield 13, 3) := by decide +kernel
theorem dX2_becomes_16 : decode cX2_becomes 16 = .ok (.aload_n 0, 1) := by decide +kernel
theorem dX2_becomes_17 : decode cX2_becomes 17 = .ok (.aload_n 1, 1) := by decide +kernel
theorem dX2_becomes_18 : decode cX2_becomes 18 = .ok (.getfield 16, 3) := by decide +kernel
theorem dX2_becomes_21 : decode cX2_becomes 21 = .ok (.putfield 16, 3) := by decide +kernel
theorem dX2_becomes_24 : decode cX2_becomes 24 = .ok (.return_, 1) := by decide +kernel
theorem dX2_makeNew_0 : decode cX2_makeNew 0 = .ok (.aload_n 0, 1) := by decide +kernel
theorem dX2_makeNew_1 : decode cX2_makeNew 1 = .ok (.iconst 0, 1) := by decide +kernel
theorem dX2_makeNew_2 : decode cX2_makeNew 2 = .ok (.putfield 7, 3) := by decide +kernel
theorem dX2_makeNew_5 : decode cX2_makeNew 5 = .ok (.aload_n 0, 1) := by decide +kernel
theorem dX2_makeNew_6 : decode cX2_makeNew 6 = .ok (.iconst 0, 1) := by decide +kernel
theorem dX2_makeNew_7 : decode cX2_makeNew 7 = .ok (.putfield 13, 3) := by decide +kernel
theorem dX2_makeNew_10 : decode cX2_makeNew 10 = .ok (.aload_n 0, 1) := by decide +kernel
theorem dX2_makeNew_11 : decode cX2_makeNew 11 = .ok (.iconst 0, 1) := by decide +kernel
theorem dX2_makeNew_12 : decode cX2_makeNew 12 = .ok (.putfield 16, 3) := by decide +kernel
theorem dX2_makeNew_15 : decode cX2_makeNew 15 = .ok (.return_, 1) := by decide +kernel
theorem dX3_hedges_0 : decode cX3_hedges 0 = .ok (.iconst 1, 1) := by decide +kernel
theorem dX3_hedges_1 : decode cX3_hedges 1 = .ok (.iconst 2, 1) := by decide +kernel
theorem dX3_hedges_2 : decode cX3_hedges 2 = .ok (.iload_n 0, 1) := by decide +kernel
theorem dX3_hedges_3 : decode cX3_hedges 3 = .ok (.imul, 1) := by decide +kernel
theorem dX3_hedges_4 : decode cX3_hedges 4 = .ok (.ishl, 1) := by decide +kernel
theorem dX3_hedges_5 : decode cX3_hedges 5 = .ok (.ireturn, 1) := by decide +kernel
theorem dX3_leavesOf_0 : decode cX3_leavesOf 0 = .ok (.iload_n 0, 1) := by decide +kernel
theorem dX3_leavesOf_1 : decode cX3_leavesOf 1 = .ok (.iconst 2, 1) := by decide +kernel
theorem dX3_leavesOf_2 : decode cX3_leavesOf 2 = .ok (.iload_n 1, 1) := by decide +kernel
theorem dX3_leavesOf_3 : decode cX3_leavesOf 3 = .ok (.imul, 1) := by decide +kernel
theorem dX3_leavesOf_4 : decode cX3_leavesOf 4 = .ok (.ishr, 1) := by decide +kernel
theorem dX3_leavesOf_5 : decode cX3_leavesOf 5 = .ok (.iconst 3, 1) := by decide +kernel
theorem dX3_leavesOf_6 : decode cX3_leavesOf 6 = .ok (.iand, 1) := by decide +kernel
theorem dX3_leavesOf_7 : decode cX3_leavesOf 7 = .ok (.ireturn, 1) := by decide +kernel
theorem dX3_isFull_0 : decode cX3_isFull 0 = .ok (.iload_n 0, 1) := by decide +kernel
theorem dX3_isFull_1 : decode cX3_isFull 1 = .ok (.iload_n 1, 1) := by decide +kernel
theorem dX3_isFull_2 : decode cX3_isFull 2 = .ok (.invokestatic 9, 3) := by decide +kernel
theorem dX3_isFull_5 : decode cX3_isFull 5 = .ok (.iconst 3, 1) := by decide +kernel
theorem dX3_isFull_6 : decode cX3_isFull 6 = .ok (.if_icmp .ne 7, 3) := by decide +kernel
theorem dX3_isFull_9 : decode cX3_isFull 9 = .ok (.iconst 1, 1) := by decide +kernel
theorem dX3_isFull_10 : decode cX3_isFull 10 = .ok (.goto 4, 3) := by decide +kernel
theorem dX3_isFull_13 : decode cX3_isFull 13 = .ok (.iconst 0, 1) := by decide +kernel
theorem dX3_isFull_14 : decode cX3_isFull 14 = .ok (.ireturn, 1) := by decide +kernel
theorem dX3_watered_0 : decode cX3_watered 0 = .ok (.iload_n 0, 1) := by decide +kernel
theorem dX3_watered_1 : decode cX3_watered 1 = .ok (.iconst 1, 1) := by decide +kernel
theorem dX3_watered_2 : decode cX3_watered 2 = .ok (.iconst 2, 1) := by decide +kernel
theorem dX3_watered_3 : decode cX3_watered 3 = .ok (.iload_n 1, 1) := by decide +kernel
theorem dX3_watered_4 : decode cX3_watered 4 = .ok (.imul, 1) := by decide +kernel
theorem dX3_watered_5 : decode cX3_watered 5 = .ok (.ishl, 1) := by decide +kernel
theorem dX3_watered_6 : decode cX3_watered 6 = .ok (.iadd, 1) := by decide +kernel
theorem dX3_watered_7 : decode cX3_watered 7 = .ok (.ireturn, 1) := by decide +kernel
theorem dX3_allLeaves_0 : decode cX3_allLeaves 0 = .ok (.iload_n 0, 1) := by decide +kernel
theorem dX3_allLeaves_1 : decode cX3_allLeaves 1 = .ok (.sipush 1365, 3) := by decide +kernel
theorem dX3_allLeaves_4 : decode cX3_allLeaves 4 = .ok (.iand, 1) := by decide +kernel
theorem dX3_allLeaves_5 : decode cX3_allLeaves 5 = .ok (.invokestatic 15, 3) := by decide +kernel
theorem dX3_allLeaves_8 : decode cX3_allLeaves 8 = .ok (.iconst 2, 1) := by decide +kernel
theorem dX3_allLeaves_9 : decode cX3_allLeaves 9 = .ok (.iload_n 0, 1) := by decide +kernel
theorem dX3_allLeaves_10 : decode cX3_allLeaves 10 = .ok (.iconst 1, 1) := by decide +kernel
theorem dX3_allLeaves_11 : decode cX3_allLeaves 11 = .ok (.ishr, 1) := by decide +kernel
theorem dX3_allLeaves_12 : decode cX3_allLeaves 12 = .ok (.sipush 1365, 3) := by decide +kernel
theorem dX3_allLeaves_15 : decode cX3_allLeaves 15 = .ok (.iand, 1) := by decide +kernel
theorem dX3_allLeaves_16 : decode cX3_allLeaves 16 = .ok (.invokestatic 15, 3) := by decide +kernel
theorem dX3_allLeaves_19 : decode cX3_allLeaves 19 = .ok (.imul, 1) := by decide +kernel
theorem dX3_allLeaves_20 : decode cX3_allLeaves 20 = .ok (.iadd, 1) := by decide +kernel
theorem dX3_allLeaves_21 : decode cX3_allLeaves 21 = .ok (.ireturn, 1) := by decide +kernel
theorem dX3_leafy_0 : decode cX3_leafy 0 = .ok (.iload_n 0, 1) := by decide +kernel
theorem dX3_leafy_1 : decode cX3_leafy 1 = .ok (.iload_n 0, 1) := by decide +kernel
theorem dX3_leafy_2 : decode cX3_leafy 2 = .ok (.iconst 1, 1) := by decide +kernel
theorem dX3_leafy_3 : decode cX3_leafy 3 = .ok (.ishr, 1) := by decide +kernel
theorem dX3_leafy_4 : decode cX3_leafy 4 = .ok (.ior, 1) := by decide +kernel
theorem dX3_leafy_5 : decode cX3_leafy 5 = .ok (.sipush 1365, 3) := by decide +kernel
theorem dX3_leafy_8 : decode cX3_leafy 8 = .ok (.iand, 1) := by decide +kernel
theorem dX3_leafy_9 : decode cX3_leafy 9 = .ok (.ireturn, 1) := by decide +kernel
theorem dX3_hasLeaves_0 : decode cX3_hasLeaves 0 = .ok (.iload_n 0, 1) := by decide +kernel
theorem dX3_hasLeaves_1 : decode cX3_hasLeaves 1 = .ok (.iload_n 1, 1) := by decide +kernel
theorem dX3_hasLeaves_2 : decode cX3_hasLeaves 2 = .ok (.iload_n 2, 1) := by decide +kernel
theorem dX3_hasLeaves_3 : decode cX3_hasLeaves 3 = .ok (.iconst 3, 1) := by decide +kernel
theorem dX3_hasLeaves_4 : decode cX3_hasLeaves 4 = .ok (.invokestatic 21, 3) := by decide +kernel
theorem dX3_hasLeaves_7 : decode cX3_hasLeaves 7 = .ok (.invokestatic 27, 3) := by decide +kernel
theorem dX3_hasLeaves_10 : decode cX3_hasLeaves 10 = .ok (.iload_n 0, 1) := by decide +kernel
theorem dX3_hasLeaves_11 : decode cX3_hasLeaves 11 = .ok (.if_icmp .eq 7, 3) := by decide +kernel
theorem dX3_hasLeaves_14 : decode cX3_hasLeaves 14 = .ok (.iconst 1, 1) := by decide +kernel
theorem dX3_hasLeaves_15 : decode cX3_hasLeaves 15 = .ok (.goto 4, 3) := by decide +kernel
theorem dX3_hasLeaves_18 : decode cX3_hasLeaves 18 = .ok (.iconst 0, 1) := by decide +kernel
theorem dX3_hasLeaves_19 : decode cX3_hasLeaves 19 = .ok (.ireturn, 1) := by decide +kernel
theorem dX3_clipped_0 : decode cX3_clipped 0 = .ok (.iload_n 0, 1) := by decide +kernel
theorem dX3_clipped_1 : decode cX3_clipped 1 = .ok (.istore_n 2, 1) := by decide +kernel
theorem dX3_clipped_2 : decode cX3_clipped 2 = .ok (.iload_n 1, 1) := by decide +kernel
theorem dX3_clipped_3 : decode cX3_clipped 3 = .ok (.invokestatic 30, 3) := by decide +kernel
theorem dX3_clipped_6 : decode cX3_clipped 6 = .ok (.istore_n 3, 1) := by decide +kernel
theorem dX3_clipped_7 : decode cX3_clipped 7 = .ok (.iload_n 1, 1) := by decide +kernel
theorem dX3_clipped_8 : decode cX3_clipped 8 = .ok (.invokestatic 33, 3) := by decide +kernel
theorem dX3_clipped_11 : decode cX3_clipped 11 = .ok (.istore 4, 2) := by decide +kernel
theorem dX3_clipped_13 : decode cX3_clipped 13 = .ok (.iload_n 1, 1) := by decide +kernel
theorem dX3_clipped_14 : decode cX3_clipped 14 = .ok (.invokestatic 36, 3) := by decide +kernel
theorem dX3_clipped_17 : decode cX3_clipped 17 = .ok (.istore 5, 2) := by decide +kernel
theorem dX3_clipped_19 : decode cX3_clipped 19 = .ok (.iload 5, 2) := by decide +kernel
theorem dX3_clipped_21 : decode cX3_clipped 21 = .ok (.iload_n 3, 1) := by decide +kernel
theorem dX3_clipped_22 : decode cX3_clipped 22 = .ok (.if_icmp .gt 28, 3) := by decide +kernel
theorem dX3_clipped_25 : decode cX3_clipped 25 = .ok (.iload_n 2, 1) := by decide +kernel
theorem dX3_clipped_26 : decode cX3_clipped 26 = .ok (.iload 4, 2) := by decide +kernel
theorem dX3_clipped_28 : decode cX3_clipped 28 = .ok (.iload_n 0, 1) := by decide +kernel
theorem dX3_clipped_29 : decode cX3_clipped 29 = .ok (.iload 5, 2) := by decide +kernel
theorem dX3_clipped_31 : decode cX3_clipped 31 = .ok (.invokestatic 9, 3) := by decide +kernel
theorem dX3_clipped_34 : decode cX3_clipped 34 = .ok (.invokestatic 39, 3) := by decide +kernel
theorem dX3_clipped_37 : decode cX3_clipped 37 = .ok (.iconst 2, 1) := by decide +kernel
theorem dX3_clipped_38 : decode cX3_clipped 38 = .ok (.iload 5, 2) := by decide +kernel
theorem dX3_clipped_40 : decode cX3_clipped 40 = .ok (.imul, 1) := by decide +kernel
theorem dX3_clipped_41 : decode cX3_clipped 41 = .ok (.ishl, 1) := by decide +kernel
theorem dX3_clipped_42 : decode cX3_clipped 42 = .ok (.isub, 1) := by decide +kernel
theorem dX3_clipped_43 : decode cX3_clipped 43 = .ok (.istore_n 2, 1) := by decide +kernel
theorem dX3_clipped_44 : decode cX3_clipped 44 = .ok (.iinc 5 1, 3) := by decide +kernel
theorem dX3_clipped_47 : decode cX3_clipped 47 = .ok (.goto (-28), 3) := by decide +kernel
theorem dX3_clipped_50 : decode cX3_clipped 50 = .ok (.iload_n 2, 1) := by decide +kernel
theorem dX3_clipped_51 : decode cX3_clipped 51 = .ok (.ireturn, 1) := by decide +kernel
theorem dX3_blown_0 : decode cX3_blown 0 = .ok (.iload_n 2, 1) := by decide +kernel
theorem dX3_blown_1 : decode cX3_blown 1 = .ok (.ifCond .ne 5, 3) := by decide +kernel
theorem dX3_blown_4 : decode cX3_blown 4 = .ok (.iload_n 0, 1) := by decide +kernel
theorem dX3_blown_5 : decode cX3_blown 5 = .ok (.ireturn, 1) := by decide +kernel
theorem dX3_blown_6 : decode cX3_blown 6 = .ok (.iload_n 0, 1) := by decide +kernel
theorem dX3_blown_7 : decode cX3_blown 7 = .ok (.invokestatic 44, 3) := by decide +kernel
theorem dX3_blown_10 : decode cX3_blown 10 = .ok (.istore_n 3, 1) := by decide +kernel
theorem dX3_blown_11 : decode cX3_blown 11 = .ok (.iload_n 2, 1) := by decide +kernel
theorem dX3_blown_12 : decode cX3_blown 12 = .ok (.iconst 1, 1) := by decide +kernel
theorem dX3_blown_13 : decode cX3_blown 13 = .ok (.if_icmp .ne 11, 3) := by decide +kernel
theorem dX3_blown_16 : decode cX3_blown 16 = .ok (.iload_n 3, 1) := by decide +kernel
theorem dX3_blown_17 : decode cX3_blown 17 = .ok (.iconst 2, 1) := by decide +kernel
theorem dX3_blown_18 : decode cX3_blown 18 = .ok (.ishl, 1) := by decide +kernel
theorem dX3_blown_19 : decode cX3_blown 19 = .ok (.iconst 1, 1) := by decide +kernel
theorem dX3_blown_20 : decode cX3_blown 20 = .ok (.ior, 1) := by decide +kernel
theorem dX3_blown_21 : decode cX3_blown 21 = .ok (.goto 14, 3) := by decide +kernel
theorem dX3_blown_24 : decode cX3_blown 24 = .ok (.iload_n 3, 1) := by decide +kernel
theorem dX3_blown_25 : decode cX3_blown 25 = .ok (.iconst 2, 1) := by decide +kernel
theorem dX3_blown_26 : decode cX3_blown 26 = .ok (.ishr, 1) := by decide +kernel
theorem dX3_blown_27 : decode cX3_blown 27 = .ok (.iconst 1, 1) := by decide +kernel
theorem dX3_blown_28 : decode cX3_blown 28 = .ok (.iconst 2, 1) := by decide +kernel
theorem dX3_blown_29 : decode cX3_blown 29 = .ok (.iload_n 1, 1) := by decide +kernel
theorem dX3_blown_30 : decode cX3_blown 30 = .ok (.iconst 1, 1) := by decide +kernel
theorem dX3_blown_31 : decode cX3_blown 31 = .ok (.isub, 1) := by decide +kernel
theorem dX3_blown_32 : decode cX3_blown 32 = .ok (.imul, 1) := by decide +kernel
theorem dX3_blown_33 : decode cX3_blown 33 = .ok (.ishl, 1) := by decide +kernel
theorem dX3_blown_34 : decode cX3_blown 34 = .ok (.ior, 1) := by decide +kernel
theorem dX3_blown_35 : decode cX3_blown 35 = .ok (.istore 4, 2) := by decide +kernel
theorem dX3_blown_37 : decode cX3_blown 37 = .ok (.iload_n 0, 1) := by decide +kernel
theorem dX3_blown_38 : decode cX3_blown 38 = .ok (.iload_n 3, 1) := by decide +kernel
theorem dX3_blown_39 : decode cX3_blown 39 = .ok (.iload 4, 2) := by decide +kernel
theorem dX3_blown_41 : decode cX3_blown 41 = .ok (.iconst (-1), 1) := by decide +kernel
theorem dX3_blown_42 : decode cX3_blown 42 = .ok (.ixor, 1) := by decide +kernel
theorem dX3_blown_43 : decode cX3_blown 43 = .ok (.iand, 1) := by decide +kernel
theorem dX3_blown_44 : decode cX3_blown 44 = .ok (.isub, 1) := by decide +kernel
theorem dX3_blown_45 : decode cX3_blown 45 = .ok (.ireturn, 1) := by decide +kernel
theorem dX3_bared_0 : decode cX3_bared 0 = .ok (.iload_n 0, 1) := by decide +kernel
theorem dX3_bared_1 : decode cX3_bared 1 = .ok (.invokestatic 44, 3) := by decide +kernel
theorem dX3_bared_4 : decode cX3_bared 4 = .ok (.invokestatic 15, 3) := by decide +kernel
theorem dX3_bared_7 : decode cX3_bared 7 = .ok (.iload_n 1, 1) := by decide +kernel
theorem dX3_bared_8 : decode cX3_bared 8 = .ok (.invokestatic 44, 3) := by decide +kernel
theorem dX3_bared_11 : decode cX3_bared 11 = .ok (.invokestatic 15, 3) := by decide +kernel
theorem dX3_bared_14 : decode cX3_bared 14 = .ok (.isub, 1) := by decide +kernel
theorem dX3_bared_15 : decode cX3_bared 15 = .ok (.ireturn, 1) := by decide +kernel
theorem dX4_init_0 : decode cX4_init 0 = .ok (.aload_n 0, 1) := by decide +kernel
theorem dX4_init_1 : decode cX4_init 1 = .ok (.invokespecial 1, 3) := by decide +kernel
theorem dX4_init_4 : decode cX4_init 4 = .ok (.aload_n 0, 1) := by decide +kernel
theorem dX4_init_5 : decode cX4_init 5 = .ok (.bipush 14, 2) := by decide +kernel
theorem dX4_init_7 : decode cX4_init 7 = .ok (.anewarray 7, 3) := by decide +kernel
theorem dX4_init_10 : decode cX4_init 10 = .ok (.putfield 9, 3) := by decide +kernel
theorem dX4_init_13 : decode cX4_init 13 = .ok (.return_, 1) := by decide +kernel
theorem dX4_forget_0 : decode cX4_forget 0 = .ok (.aload_n 0, 1) := by decide +kernel
theorem dX4_forget_1 : decode cX4_forget 1 = .ok (.iconst 0, 1) := by decide +kernel
theorem dX4_forget_2 : decode cX4_forget 2 = .ok (.putfield 15, 3) := by decide +kernel
theorem dX4_forget_5 : decode cX4_forget 5 = .ok (.return_, 1) := by decide +kernel
theorem dX4_keep_0 : decode cX4_keep 0 = .ok (.aload_n 0, 1) := by decide +kernel
theorem dX4_keep_1 : decode cX4_keep 1 = .ok (.getfield 19, 3) := by decide +kernel
theorem dX4_keep_4 : decode cX4_keep 4 = .ok (.ifCond .lt 15, 3) := by decide +kernel
theorem dX4_keep_7 : decode cX4_keep 7 = .ok (.aload_n 0, 1) := by decide +kernel
theorem dX4_keep_8 : decode cX4_keep 8 = .ok (.getfield 19, 3) := by decide +kernel
theorem dX4_keep_11 : decode cX4_keep 11 = .ok (.aload_n 0, 1) := by decide +kernel
theorem dX4_keep_12 : decode cX4_keep 12 = .ok (.getfield 9, 3) := by decide +kernel
theorem dX4_keep_15 : decode cX4_keep 15 = .ok (.arraylength, 1) := by decide +kernel
theorem dX4_keep_16 : decode cX4_keep 16 = .ok (.if_icmp .lt 8, 3) := by decide +kernel
theorem dX4_keep_19 : decode cX4_keep 19 = .ok (.aload_n 0, 1) := by decide +kernel
theorem dX4_keep_20 : decode cX4_keep 20 = .ok (.iconst 0, 1) := by decide +kernel
theorem dX4_keep_21 : decode cX4_keep 21 = .ok (.putfield 19, 3) := by decide +kernel
theorem dX4_keep_24 : decode cX4_keep 24 = .ok (.aload_n 0, 1) := by decide +kernel
theorem dX4_keep_25 : decode cX4_keep 25 = .ok (.getfield 9, 3) := by decide +kernel
theorem dX4_keep_28 : decode cX4_keep 28 = .ok (.aload_n 0, 1) := by decide +kernel
theorem dX4_keep_29 : decode cX4_keep 29 = .ok (.getfield 19, 3) := by decide +kernel
theorem dX4_keep_32 : decode cX4_keep 32 = .ok (.aaload, 1) := by decide +kernel
theorem dX4_keep_33 : decode cX4_keep 33 = .ok (.astore_n 2, 1) := by decide +kernel
theorem dX4_keep_34 : decode cX4_keep 34 = .ok (.aload_n 2, 1) := by decide +kernel
theorem dX4_keep_35 : decode cX4_keep 35 = .ok (.ifnonnull 21, 3) := by decide +kernel
theorem dX4_keep_38 : decode cX4_keep 38 = .ok (.new 7, 3) := by decide +kernel
theorem dX4_keep_41 : decode cX4_keep 41 = .ok (.dup, 1) := by decide +kernel
theorem dX4_keep_42 : decode cX4_keep 42 = .ok (.invokespecial 22, 3) := by decide +kernel
theorem dX4_keep_45 : decode cX4_keep 45 = .ok (.astore_n 2, 1) := by decide +kernel
theorem dX4_keep_46 : decode cX4_keep 46 = .ok (.aload_n 0, 1) := by decide +kernel
theorem dX4_keep_47 : decode cX4_keep 47 = .ok (.getfield 9, 3) := by decide +kernel
theorem dX4_keep_50 : decode cX4_keep 50 = .ok (.aload_n 0, 1) := by decide +kernel
theorem dX4_keep_51 : decode cX4_keep 51 = .ok (.getfield 19, 3) := by decide +kernel
theorem dX4_keep_54 : decode cX4_keep 54 = .ok (.aload_n 2, 1) := by decide +kernel
theorem dX4_keep_55 : decode cX4_keep 55 = .ok (.aastore, 1) := by decide +kernel
theorem dX4_keep_56 : decode cX4_keep 56 = .ok (.aload_n 2, 1) := by decide +kernel
theorem dX4_keep_57 : decode cX4_keep 57 = .ok (.aload_n 1, 1) := by decide +kernel
theorem dX4_keep_58 : decode cX4_keep 58 = .ok (.invokevirtual 23, 3) := by decide +kernel
theorem dX4_keep_61 : decode cX4_keep 61 = .ok (.aload_n 0, 1) := by decide +kernel
theorem dX4_keep_62 : decode cX4_keep 62 = .ok (.dup, 1) := by decide +kernel
theorem dX4_keep_63 : decode cX4_keep 63 = .ok (.getfield 19, 3) := by decide +kernel
theorem dX4_keep_66 : decode cX4_keep 66 = .ok (.iconst 1, 1) := by decide +kernel
theorem dX4_keep_67 : decode cX4_keep 67 = .ok (.iadd, 1) := by decide +kernel
theorem dX4_keep_68 : decode cX4_keep 68 = .ok (.putfield 19, 3) := by decide +kernel
theorem dX4_keep_71 : decode cX4_keep 71 = .ok (.aload_n 0, 1) := by decide +kernel
theorem dX4_keep_72 : decode cX4_keep 72 = .ok (.aload_n 0, 1) := by decide +kernel
theorem dX4_keep_73 : decode cX4_keep 73 = .ok (.getfield 15, 3) := by decide +kernel
theorem dX4_keep_76 : decode cX4_keep 76 = .ok (.iconst 1, 1) := by decide +kernel
theorem dX4_keep_77 : decode cX4_keep 77 = .ok (.iadd, 1) := by decide +kernel
theorem dX4_keep_78 : decode cX4_keep 78 = .ok (.aload_n 0, 1) := by decide +kernel
theorem dX4_keep_79 : decode cX4_keep 79 = .ok (.getfield 9, 3) := by decide +kernel
theorem dX4_keep_82 : decode cX4_keep 82 = .ok (.arraylength, 1) := by decide +kernel
theorem dX4_keep_83 : decode cX4_keep 83 = .ok (.invokestatic 27, 3) := by decide +kernel
theorem dX4_keep_86 : decode cX4_keep 86 = .ok (.putfield 15, 3) := by decide +kernel
theorem dX4_keep_89 : decode cX4_keep 89 = .ok (.return_, 1) := by decide +kernel
theorem dX4_givesBack_0 : decode cX4_givesBack 0 = .ok (.aload_n 0, 1) := by decide +kernel
theorem dX4_givesBack_1 : decode cX4_givesBack 1 = .ok (.getfield 19, 3) := by decide +kernel
theorem dX4_givesBack_4 : decode cX4_givesBack 4 = .ok (.ifCond .ne 13, 3) := by decide +kernel
theorem dX4_givesBack_7 : decode cX4_givesBack 7 = .ok (.aload_n 0, 1) := by decide +kernel
theorem dX4_givesBack_8 : decode cX4_givesBack 8 = .ok (.getfield 9, 3) := by decide +kernel
theorem dX4_givesBack_11 : decode cX4_givesBack 11 = .ok (.arraylength, 1) := by decide +kernel
theorem dX4_givesBack_12 : decode cX4_givesBack 12 = .ok (.iconst 1, 1) := by decide +kernel
theorem dX4_givesBack_13 : decode cX4_givesBack 13 = .ok (.isub, 1) := by decide +kernel
theorem dX4_givesBack_14 : decode cX4_givesBack 14 = .ok (.goto 9, 3) := by decide +kernel
theorem dX4_givesBack_17 : decode cX4_givesBack 17 = .ok (.aload_n 0, 1) := by decide +kernel
theorem dX4_givesBack_18 : decode cX4_givesBack 18 = .ok (.getfield 19, 3) := by decide +kernel
theorem dX4_givesBack_21 : decode cX4_givesBack 21 = .ok (.iconst 1, 1) := by decide +kernel
theorem dX4_givesBack_22 : decode cX4_givesBack 22 = .ok (.isub, 1) := by decide +kernel
theorem dX4_givesBack_23 : decode cX4_givesBack 23 = .ok (.istore_n 2, 1) := by decide +kernel
theorem dX4_givesBack_24 : decode cX4_givesBack 24 = .ok (.aload_n 0, 1) := by decide +kernel
theorem dX4_givesBack_25 : decode cX4_givesBack 25 = .ok (.getfield 15, 3) := by decide +kernel
theorem dX4_givesBack_28 : decode cX4_givesBack 28 = .ok (.ifCond .eq 16, 3) := by decide +kernel
theorem dX4_givesBack_31 : decode cX4_givesBack 31 = .ok (.iload_n 2, 1) := by decide +kernel
theorem dX4_givesBack_32 : decode cX4_givesBack 32 = .ok (.ifCond .lt 12, 3) := by decide +kernel
theorem dX4_givesBack_35 : decode cX4_givesBack 35 = .ok (.iload_n 2, 1) := by decide +kernel
theorem dX4_givesBack_36 : decode cX4_givesBack 36 = .ok (.aload_n 0, 1) := by decide +kernel
theorem dX4_givesBack_37 : decode cX4_givesBack 37 = .ok (.getfield 9, 3) := by decide +kernel
theorem dX4_givesBack_40 : decode cX4_givesBack 40 = .ok (.arraylength, 1) := by decide +kernel
theorem dX4_givesBack_41 : decode cX4_givesBack 41 = .ok (.if_icmp .lt 5, 3) := by decide +kernel
theorem dX4_givesBack_44 : decode cX4_givesBack 44 = .ok (.iconst 0, 1) := by decide +kernel
theorem dX4_givesBack_45 : decode cX4_givesBack 45 = .ok (.ireturn, 1) := by decide +kernel
theorem dX4_givesBack_46 : decode cX4_givesBack 46 = .ok (.aload_n 0, 1) := by decide +kernel
theorem dX4_givesBack_47 : decode cX4_givesBack 47 = .ok (.getfield 9, 3) := by decide +kernel
theorem dX4_givesBack_50 : decode cX4_givesBack 50 = .ok (.iload_n 2, 1) := by decide +kernel
theorem dX4_givesBack_51 : decode cX4_givesBack 51 = .ok (.aaload, 1) := by decide +kernel
theorem dX4_givesBack_52 : decode cX4_givesBack 52 = .ok (.astore_n 3, 1) := by decide +kernel
theorem dX4_givesBack_53 : decode cX4_givesBack 53 = .ok (.aload_n 3, 1) := by decide +kernel
theorem dX4_givesBack_54 : decode cX4_givesBack 54 = .ok (.ifnonnull 5, 3) := by decide +kernel
theorem dX4_givesBack_57 : decode cX4_givesBack 57 = .ok (.iconst 0, 1) := by decide +kernel
theorem dX4_givesBack_58 : decode cX4_givesBack 58 = .ok (.ireturn, 1) := by decide +kernel
theorem dX4_givesBack_59 : decode cX4_givesBack 59 = .ok (.aload_n 1, 1) := by decide +kernel
theorem dX4_givesBack_60 : decode cX4_givesBack 60 = .ok (.aload_n 3, 1) := by decide +kernel
theorem dX4_givesBack_61 : decode cX4_givesBack 61 = .ok (.invokevirtual 23, 3) := by decide +kernel
theorem dX4_givesBack_64 : decode cX4_givesBack 64 = .ok (.aload_n 0, 1) := by decide +kernel
theorem dX4_givesBack_65 : decode cX4_givesBack 65 = .ok (.iload_n 2, 1) := by decide +kernel
theorem dX4_givesBack_66 : decode cX4_givesBack 66 = .ok (.putfield 19, 3) := by decide +kernel
theorem dX4_givesBack_69 : decode cX4_givesBack 69 = .ok (.aload_n 0, 1) := by decide +kernel
theorem dX4_givesBack_70 : decode cX4_givesBack 70 = .ok (.dup, 1) := by decide +kernel
theorem dX4_givesBack_71 : decode cX4_givesBack 71 = .ok (.getfield 15, 3) := by decide +kernel
theorem dX4_givesBack_74 : decode cX4_givesBack 74 = .ok (.iconst 1, 1) := by decide +kernel
theorem dX4_givesBack_75 : decode cX4_givesBack 75 = .ok (.isub, 1) := by decide +kernel
theorem dX4_givesBack_76 : decode cX4_givesBack 76 = .ok (.putfield 15, 3) := by decide +kernel
theorem dX4_givesBack_79 : decode cX4_givesBack 79 = .ok (.iconst 1, 1) := by decide +kernel
theorem dX4_givesBack_80 : decode cX4_givesBack 80 = .ok (.ireturn, 1) := by decide +kernel
theorem dX5_init_0 : decode cX5_init 0 = .ok (.aload_n 0, 1) := by decide +kernel
theorem dX5_init_1 : decode cX5_init 1 = .ok (.invokespecial 3, 3) := by decide +kernel
theorem dX5_init_4 : decode cX5_init 4 = .ok (.aload_n 0, 1) := by decide +kernel
theorem dX5_init_5 : decode cX5_init 5 = .ok (.bipush 45, 2) := by decide +kernel
theorem dX5_init_7 : decode cX5_init 7 = .ok (.newarray .int, 2) := by decide +kernel
theorem dX5_init_9 : decode cX5_init 9 = .ok (.putfield 11, 3) := by decide +kernel
theorem dX5_init_12 : decode cX5_init 12 = .ok (.aload_n 0, 1) := by decide +kernel
theorem dX5_init_13 : decode cX5_init 13 = .ok (.iconst 2, 1) := by decide +kernel
theorem dX5_init_14 : decode cX5_init 14 = .ok (.iload_n 1, 1) := by decide +kernel
theorem dX5_init_15 : decode cX5_init 15 = .ok (.bipush 6, 2) := by decide +kernel
theorem dX5_init_17 : decode cX5_init 17 = .ok (.invokestatic 15, 3) := by decide +kernel
theorem dX5_init_20 : decode cX5_init 20 = .ok (.invokestatic 21, 3) := by decide +kernel
theorem dX5_init_23 : decode cX5_init 23 = .ok (.putfield 24, 3) := by decide +kernel
theorem dX5_init_26 : decode cX5_init 26 = .ok (.aload_n 0, 1) := by decide +kernel
theorem dX5_init_27 : decode cX5_init 27 = .ok (.iload_n 2, 1) := by decide +kernel
theorem dX5_init_28 : decode cX5_init 28 = .ok (.putfield 28, 3) := by decide +kernel
theorem dX5_init_31 : decode cX5_init 31 = .ok (.aload_n 0, 1) := by decide +kernel
theorem dX5_init_32 : decode cX5_init 32 = .ok (.aload_n 0, 1) := by decide +kernel
theorem dX5_init_33 : decode cX5_init 33 = .ok (.getfield 24, 3) := by decide +kernel
theorem dX5_init_36 : decode cX5_init 36 = .ok (.invokestatic 31, 3) := by decide +kernel
theorem dX5_init_39 : decode cX5_init 39 = .ok (.newarray .byte, 2) := by decide +kernel
theorem dX5_init_41 : decode cX5_init 41 = .ok (.putfield 37, 3) := by decide +kernel
theorem dX5_init_44 : decode cX5_init 44 = .ok (.iconst 0, 1) := by decide +kernel
theorem dX5_init_45 : decode cX5_init 45 = .ok (.istore 4, 2) := by decide +kernel
theorem dX5_init_47 : decode cX5_init 47 = .ok (.iconst 0, 1) := by decide +kernel
theorem dX5_init_48 : decode cX5_init 48 = .ok (.istore 5, 2) := by decide +kernel
theorem dX5_init_50 : decode cX5_init 50 = .ok (.iload 5, 2) := by decide +kernel
theorem dX5_init_52 : decode cX5_init 52 = .ok (.aload_n 0, 1) := by decide +kernel
theorem dX5_init_53 : decode cX5_init 53 = .ok (.getfield 24, 3) := by decide +kernel
theorem dX5_init_56 : decode cX5_init 56 = .ok (.if_icmp .ge 81, 3) := by decide +kernel
theorem dX5_init_59 : decode cX5_init 59 = .ok (.iload 5, 2) := by decide +kernel
theorem dX5_init_61 : decode cX5_init 61 = .ok (.istore 6, 2) := by decide +kernel
theorem dX5_init_63 : decode cX5_init 63 = .ok (.iload 6, 2) := by decide +kernel
theorem dX5_init_65 : decode cX5_init 65 = .ok (.aload_n 0, 1) := by decide +kernel
theorem dX5_init_66 : decode cX5_init 66 = .ok (.getfield 24, 3) := by decide +kernel
theorem dX5_init_69 : decode cX5_init 69 = .ok (.if_icmp .ge 62, 3) := by decide +kernel
theorem dX5_init_72 : decode cX5_init 72 = .ok (.iload 6, 2) := by decide +kernel
theorem dX5_init_74 : decode cX5_init 74 = .ok (.iload 5, 2) := by decide +kernel
theorem dX5_init_76 : decode cX5_init 76 = .ok (.isub, 1) := by decide +kernel
theorem dX5_init_77 : decode cX5_init 77 = .ok (.iload_n 3, 1) := by decide +kernel
theorem dX5_init_78 : decode cX5_init 78 = .ok (.if_icmp .ge 53, 3) := by decide +kernel
theorem dX5_init_81 : decode cX5_init 81 = .ok (.iconst 1, 1) := by decide +kernel
theorem dX5_init_82 : decode cX5_init 82 = .ok (.istore 7, 2) := by decide +kernel
theorem dX5_init_84 : decode cX5_init 84 = .ok (.iload 7, 2) := by decide +kernel
theorem dX5_init_86 : decode cX5_init 86 = .ok (.iconst 3, 1) := by decide +kernel
theorem dX5_init_87 : decode cX5_init 87 = .ok (.if_icmp .gt 38, 3) := by decide +kernel
theorem dX5_init_90 : decode cX5_init 90 = .ok (.iload 4, 2) := by decide +kernel
theorem dX5_init_92 : decode cX5_init 92 = .ok (.aload_n 0, 1) := by decide +kernel
theorem dX5_init_93 : decode cX5_init 93 = .ok (.getfield 11, 3) := by decide +kernel
theorem dX5_init_96 : decode cX5_init 96 = .ok (.arraylength, 1) := by decide +kernel
theorem dX5_init_97 : decode cX5_init 97 = .ok (.if_icmp .ge 22, 3) := by decide +kernel
theorem dX5_init_100 : decode cX5_init 100 = .ok (.aload_n 0, 1) := by decide +kernel
theorem dX5_init_101 : decode cX5_init 101 = .ok (.getfield 11, 3) := by decide +kernel
theorem dX5_init_104 : decode cX5_init 104 = .ok (.iload 4, 2) := by decide +kernel
theorem dX5_init_106 : decode cX5_init 106 = .ok (.iload 5, 2) := by decide +kernel
theorem dX5_init_108 : decode cX5_init 108 = .ok (.iload 6, 2) := by decide +kernel
theorem dX5_init_110 : decode cX5_init 110 = .ok (.iload 7, 2) := by decide +kernel
theorem dX5_init_112 : decode cX5_init 112 = .ok (.invokestatic 41, 3) := by decide +kernel
theorem dX5_init_115 : decode cX5_init 115 = .ok (.iastore, 1) := by decide +kernel
theorem dX5_init_116 : decode cX5_init 116 = .ok (.iinc 4 1, 3) := by decide +kernel
theorem dX5_init_119 : decode cX5_init 119 = .ok (.iinc 7 1, 3) := by decide +kernel
theorem dX5_init_122 : decode cX5_init 122 = .ok (.goto (-38), 3) := by decide +kernel
theorem dX5_init_125 : decode cX5_init 125 = .ok (.iinc 6 1, 3) := by decide +kernel
theorem dX5_init_128 : decode cX5_init 128 = .ok (.goto (-65), 3) := by decide +kernel
theorem dX5_init_131 : decode cX5_init 131 = .ok (.iinc 5 1, 3) := by decide +kernel
theorem dX5_init_134 : decode cX5_init 134 = .ok (.goto (-84), 3) := by decide +kernel
theorem dX5_init_137 : decode cX5_init 137 = .ok (.aload_n 0, 1) := by decide +kernel
theorem dX5_init_138 : decode cX5_init 138 = .ok (.iload 4, 2) := by decide +kernel
theorem dX5_init_140 : decode cX5_init 140 = .ok (.putfield 47, 3) := by decide +kernel
theorem dX5_init_143 : decode cX5_init 143 = .ok (.return_, 1) := by decide +kernel
theorem dX5_possibleClips_0 : decode cX5_possibleClips 0 = .ok (.iconst 0, 1) := by decide +kernel
theorem dX5_possibleClips_1 : decode cX5_possibleClips 1 = .ok (.istore_n 2, 1) := by decide +kernel
theorem dX5_possibleClips_2 : decode cX5_possibleClips 2 = .ok (.iconst 0, 1) := by decide +kernel
theorem dX5_possibleClips_3 : decode cX5_possibleClips 3 = .ok (.istore_n 3, 1) := by decide +kernel
theorem dX5_possibleClips_4 : decode cX5_possibleClips 4 = .ok (.iload_n 3, 1) := by decide +kernel
theorem dX5_possibleClips_5 : decode cX5_possibleClips 5 = .ok (.aload_n 0, 1) := by decide +kernel
theorem dX5_possibleClips_6 : decode cX5_possibleClips 6 = .ok (.getfield 47, 3) := by decide +kernel
theorem dX5_possibleClips_9 : decode cX5_possibleClips 9 = .ok (.if_icmp .ge 35, 3) := by decide +kernel
theorem dX5_possibleClips_12 : decode cX5_possibleClips 12 = .ok (.iload_n 3, 1) := by decide +kernel
theorem dX5_possibleClips_13 : decode cX5_possibleClips 13 = .ok (.aload_n 0, 1) := by decide +kernel
theorem dX5_possibleClips_14 : decode cX5_possibleClips 14 = .ok (.getfield 11, 3) := by decide +kernel
theorem dX5_possibleClips_17 : decode cX5_possibleClips 17 = .ok (.arraylength, 1) := by decide +kernel
theorem dX5_possibleClips_18 : decode cX5_possibleClips 18 = .ok (.if_icmp .ge 26, 3) := by decide +kernel
theorem dX5_possibleClips_21 : decode cX5_possibleClips 21 = .ok (.iload_n 1, 1) := by decide +kernel
theorem dX5_possibleClips_22 : decode cX5_possibleClips 22 = .ok (.aload_n 0, 1) := by decide +kernel
theorem dX5_possibleClips_23 : decode cX5_possibleClips 23 = .ok (.getfield 11, 3) := by decide +kernel
theorem dX5_possibleClips_26 : decode cX5_possibleClips 26 = .ok (.iload_n 3, 1) := by decide +kernel
theorem dX5_possibleClips_27 : decode cX5_possibleClips 27 = .ok (.iaload, 1) := by decide +kernel
theorem dX5_possibleClips_28 : decode cX5_possibleClips 28 = .ok (.invokestatic 50, 3) := by decide +kernel
theorem dX5_possibleClips_31 : decode cX5_possibleClips 31 = .ok (.iload_n 1, 1) := by decide +kernel
theorem dX5_possibleClips_32 : decode cX5_possibleClips 32 = .ok (.if_icmp .eq 6, 3) := by decide +kernel
theorem dX5_possibleClips_35 : decode cX5_possibleClips 35 = .ok (.iinc 2 1, 3) := by decide +kernel
theorem dX5_possibleClips_38 : decode cX5_possibleClips 38 = .ok (.iinc 3 1, 3) := by decide +kernel
theorem dX5_possibleClips_41 : decode cX5_possibleClips 41 = .ok (.goto (-37), 3) := by decide +kernel
theorem dX5_possibleClips_44 : decode cX5_possibleClips 44 = .ok (.iload_n 2, 1) := by decide +kernel
theorem dX5_possibleClips_45 : decode cX5_possibleClips 45 = .ok (.ireturn, 1) := by decide +kernel
theorem dX5_bestClipOf_0 : decode cX5_bestClipOf 0 = .ok (.aload_n 0, 1) := by decide +kernel
theorem dX5_bestClipOf_1 : decode cX5_bestClipOf 1 = .ok (.iload_n 1, 1) := by decide +kernel
theorem dX5_bestClipOf_2 : decode cX5_bestClipOf 2 = .ok (.iconst 0, 1) := by decide +kernel
theorem dX5_bestClipOf_3 : decode cX5_bestClipOf 3 = .ok (.invokevirtual 53, 3) := by decide +kernel
theorem dX5_bestClipOf_6 : decode cX5_bestClipOf 6 = .ok (.istore_n 2, 1) := by decide +kernel
theorem dX5_bestClipOf_7 : decode cX5_bestClipOf 7 = .ok (.iconst 0, 1) := by decide +kernel
theorem dX5_bestClipOf_8 : decode cX5_bestClipOf 8 = .ok (.istore_n 3, 1) := by decide +kernel
theorem dX5_bestClipOf_9 : decode cX5_bestClipOf 9 = .ok (.iload_n 3, 1) := by decide +kernel
theorem dX5_bestClipOf_10 : decode cX5_bestClipOf 10 = .ok (.aload_n 0, 1) := by decide +kernel
theorem dX5_bestClipOf_11 : decode cX5_bestClipOf 11 = .ok (.getfield 47, 3) := by decide +kernel
theorem dX5_bestClipOf_14 : decode cX5_bestClipOf 14 = .ok (.if_icmp .ge 41, 3) := by decide +kernel
theorem dX5_bestClipOf_17 : decode cX5_bestClipOf 17 = .ok (.iload_n 3, 1) := by decide +kernel
theorem dX5_bestClipOf_18 : decode cX5_bestClipOf 18 = .ok (.aload_n 0, 1) := by decide +kernel
theorem dX5_bestClipOf_19 : decode cX5_bestClipOf 19 = .ok (.getfield 11, 3) := by decide +kernel
theorem dX5_bestClipOf_22 : decode cX5_bestClipOf 22 = .ok (.arraylength, 1) := by decide +kernel
theorem dX5_bestClipOf_23 : decode cX5_bestClipOf 23 = .ok (.if_icmp .ge 32, 3) := by decide +kernel
theorem dX5_bestClipOf_26 : decode cX5_bestClipOf 26 = .ok (.aload_n 0, 1) := by decide +kernel
theorem dX5_bestClipOf_27 : decode cX5_bestClipOf 27 = .ok (.iload_n 1, 1) := by decide +kernel
theorem dX5_bestClipOf_28 : decode cX5_bestClipOf 28 = .ok (.aload_n 0, 1) := by decide +kernel
theorem dX5_bestClipOf_29 : decode cX5_bestClipOf 29 = .ok (.getfield 11, 3) := by decide +kernel
theorem dX5_bestClipOf_32 : decode cX5_bestClipOf 32 = .ok (.iload_n 3, 1) := by decide +kernel
theorem dX5_bestClipOf_33 : decode cX5_bestClipOf 33 = .ok (.iaload, 1) := by decide +kernel
theorem dX5_bestClipOf_34 : decode cX5_bestClipOf 34 = .ok (.iconst 0, 1) := by decide +kernel
theorem dX5_bestClipOf_35 : decode cX5_bestClipOf 35 = .ok (.invokevirtual 56, 3) := by decide +kernel
theorem dX5_bestClipOf_38 : decode cX5_bestClipOf 38 = .ok (.iload_n 2, 1) := by decide +kernel
theorem dX5_bestClipOf_39 : decode cX5_bestClipOf 39 = .ok (.if_icmp .ne 10, 3) := by decide +kernel
theorem dX5_bestClipOf_42 : decode cX5_bestClipOf 42 = .ok (.aload_n 0, 1) := by decide +kernel
theorem dX5_bestClipOf_43 : decode cX5_bestClipOf 43 = .ok (.getfield 11, 3) := by decide +kernel
theorem dX5_bestClipOf_46 : decode cX5_bestClipOf 46 = .ok (.iload_n 3, 1) := by decide +kernel
theorem dX5_bestClipOf_47 : decode cX5_bestClipOf 47 = .ok (.iaload, 1) := by decide +kernel
theorem dX5_bestClipOf_48 : decode cX5_bestClipOf 48 = .ok (.ireturn, 1) := by decide +kernel
theorem dX5_bestClipOf_49 : decode cX5_bestClipOf 49 = .ok (.iinc 3 1, 3) := by decide +kernel
theorem dX5_bestClipOf_52 : decode cX5_bestClipOf 52 = .ok (.goto (-43), 3) := by decide +kernel
theorem dX5_bestClipOf_55 : decode cX5_bestClipOf 55 = .ok (.iconst (-1), 1) := by decide +kernel
theorem dX5_bestClipOf_56 : decode cX5_bestClipOf 56 = .ok (.ireturn, 1) := by decide +kernel
theorem dX5_countBestClips_0 : decode cX5_countBestClips 0 = .ok (.aload_n 0, 1) := by decide +kernel
theorem dX5_countBestClips_1 : decode cX5_countBestClips 1 = .ok (.iload_n 1, 1) := by decide +kernel
theorem dX5_countBestClips_2 : decode cX5_countBestClips 2 = .ok (.iconst 0, 1) := by decide +kernel
theorem dX5_countBestClips_3 : decode cX5_countBestClips 3 = .ok (.invokevirtual 53, 3) := by decide +kernel
theorem dX5_countBestClips_6 : decode cX5_countBestClips 6 = .ok (.istore_n 2, 1) := by decide +kernel
theorem dX5_countBestClips_7 : decode cX5_countBestClips 7 = .ok (.iconst 0, 1) := by decide +kernel
theorem dX5_countBestClips_8 : decode cX5_countBestClips 8 = .ok (.istore_n 3, 1) := by decide +kernel
theorem dX5_countBestClips_9 : decode cX5_countBestClips 9 = .ok (.iconst 0, 1) := by decide +kernel
theorem dX5_countBestClips_10 : decode cX5_countBestClips 10 = .ok (.istore 4, 2) := by decide +kernel
theorem dX5_countBestClips_12 : decode cX5_countBestClips 12 = .ok (.iload 4, 2) := by decide +kernel
theorem dX5_countBestClips_14 : decode cX5_countBestClips 14 = .ok (.aload_n 0, 1) := by decide +kernel
theorem dX5_countBestClips_15 : decode cX5_countBestClips 15 = .ok (.getfield 47, 3) := by decide +kernel
theorem dX5_countBestClips_18 : decode cX5_countBestClips 18 = .ok (.if_icmp .ge 39, 3) := by decide +kernel
theorem dX5_countBestClips_21 : decode cX5_countBestClips 21 = .ok (.iload 4, 2) := by decide +kernel
theorem dX5_countBestClips_23 : decode cX5_countBestClips 23 = .ok (.aload_n 0, 1) := by decide +kernel
theorem dX5_countBestClips_24 : decode cX5_countBestClips 24 = .ok (.getfield 11, 3) := by decide +kernel
theorem dX5_countBestClips_27 : decode cX5_countBestClips 27 = .ok (.arraylength, 1) := by decide +kernel
theorem dX5_countBestClips_28 : decode cX5_countBestClips 28 = .ok (.if_icmp .ge 29, 3) := by decide +kernel
theorem dX5_countBestClips_31 : decode cX5_countBestClips 31 = .ok (.aload_n 0, 1) := by decide +kernel
theorem dX5_countBestClips_32 : decode cX5_countBestClips 32 = .ok (.iload_n 1, 1) := by decide +kernel
theorem dX5_countBestClips_33 : decode cX5_countBestClips 33 = .ok (.aload_n 0, 1) := by decide +kernel
theorem dX5_countBestClips_34 : decode cX5_countBestClips 34 = .ok (.getfield 11, 3) := by decide +kernel
theorem dX5_countBestClips_37 : decode cX5_countBestClips 37 = .ok (.iload 4, 2) := by decide +kernel
theorem dX5_countBestClips_39 : decode cX5_countBestClips 39 = .ok (.iaload, 1) := by decide +kernel
theorem dX5_countBestClips_40 : decode cX5_countBestClips 40 = .ok (.iconst 0, 1) := by decide +kernel
theorem dX5_countBestClips_41 : decode cX5_countBestClips 41 = .ok (.invokevirtual 56, 3) := by decide +kernel
theorem dX5_countBestClips_44 : decode cX5_countBestClips 44 = .ok (.iload_n 2, 1) := by decide +kernel
theorem dX5_countBestClips_45 : decode cX5_countBestClips 45 = .ok (.if_icmp .ne 6, 3) := by decide +kernel
theorem dX5_countBestClips_48 : decode cX5_countBestClips 48 = .ok (.iinc 3 1, 3) := by decide +kernel
theorem dX5_countBestClips_51 : decode cX5_countBestClips 51 = .ok (.iinc 4 1, 3) := by decide +kernel
theorem dX5_countBestClips_54 : decode cX5_countBestClips 54 = .ok (.goto (-42), 3) := by decide +kernel
theorem dX5_countBestClips_57 : decode cX5_countBestClips 57 = .ok (.iload_n 3, 1) := by decide +kernel
theorem dX5_countBestClips_58 : decode cX5_countBestClips 58 = .ok (.ireturn, 1) := by decide +kernel
theorem dX5_behindBestClip_0 : decode cX5_behindBestClip 0 = .ok (.aload_n 0, 1) := by decide +kernel
theorem dX5_behindBestClip_1 : decode cX5_behindBestClip 1 = .ok (.iload_n 1, 1) := by decide +kernel
theorem dX5_behindBestClip_2 : decode cX5_behindBestClip 2 = .ok (.invokevirtual 59, 3) := by decide +kernel
theorem dX5_behindBestClip_5 : decode cX5_behindBestClip 5 = .ok (.istore_n 2, 1) := by decide +kernel
theorem dX5_behindBestClip_6 : decode cX5_behindBestClip 6 = .ok (.iload_n 2, 1) := by decide +kernel
theorem dX5_behindBestClip_7 : decode cX5_behindBestClip 7 = .ok (.iconst (-1), 1) := by decide +kernel
theorem dX5_behindBestClip_8 : decode cX5_behindBestClip 8 = .ok (.if_icmp .ne 7, 3) := by decide +kernel
theorem dX5_behindBestClip_11 : decode cX5_behindBestClip 11 = .ok (.iload_n 1, 1) := by decide +kernel
theorem dX5_behindBestClip_12 : decode cX5_behindBestClip 12 = .ok (.goto 19, 3) := by decide +kernel
theorem dX5_behindBestClip_15 : decode cX5_behindBestClip 15 = .ok (.iload_n 1, 1) := by decide +kernel
theorem dX5_behindBestClip_16 : decode cX5_behindBestClip 16 = .ok (.iload_n 2, 1) := by decide +kernel
theorem dX5_behindBestClip_17 : decode cX5_behindBestClip 17 = .ok (.invokestatic 50, 3) := by decide +kernel
theorem dX5_behindBestClip_20 : decode cX5_behindBestClip 20 = .ok (.aload_n 0, 1) := by decide +kernel
theorem dX5_behindBestClip_21 : decode cX5_behindBestClip 21 = .ok (.getfield 24, 3) := by decide +kernel
theorem dX5_behindBestClip_24 : decode cX5_behindBestClip 24 = .ok (.aload_n 0, 1) := by decide +kernel
theorem dX5_behindBestClip_25 : decode cX5_behindBestClip 25 = .ok (.getfield 28, 3) := by decide +kernel
theorem dX5_behindBestClip_28 : decode cX5_behindBestClip 28 = .ok (.invokestatic 62, 3) := by decide +kernel
theorem dX5_behindBestClip_31 : decode cX5_behindBestClip 31 = .ok (.ireturn, 1) := by decide +kernel
theorem dX5_worthAt_0 : decode cX5_worthAt 0 = .ok (.iload_n 1, 1) := by decide +kernel
theorem dX5_worthAt_1 : decode cX5_worthAt 1 = .ok (.ifCond .le 18, 3) := by decide +kernel
theorem dX5_worthAt_4 : decode cX5_worthAt 4 = .ok (.iload_n 1, 1) := by decide +kernel
theorem dX5_worthAt_5 : decode cX5_worthAt 5 = .ok (.aload_n 0, 1) := by decide +kernel
theorem dX5_worthAt_6 : decode cX5_worthAt 6 = .ok (.getfield 37, 3) := by decide +kernel
theorem dX5_worthAt_9 : decode cX5_worthAt 9 = .ok (.arraylength, 1) := by decide +kernel
theorem dX5_worthAt_10 : decode cX5_worthAt 10 = .ok (.if_icmp .ge 9, 3) := by decide +kernel
theorem dX5_worthAt_13 : decode cX5_worthAt 13 = .ok (.iload_n 2, 1) := by decide +kernel
theorem dX5_worthAt_14 : decode cX5_worthAt 14 = .ok (.bipush 18, 2) := by decide +kernel
theorem dX5_worthAt_16 : decode cX5_worthAt 16 = .ok (.if_icmp .le 5, 3) := by decide +kernel
theorem dX5_worthAt_19 : decode cX5_worthAt 19 = .ok (.iconst 0, 1) := by decide +kernel
theorem dX5_worthAt_20 : decode cX5_worthAt 20 = .ok (.ireturn, 1) := by decide +kernel
theorem dX5_worthAt_21 : decode cX5_worthAt 21 = .ok (.aload_n 0, 1) := by decide +kernel
theorem dX5_worthAt_22 : decode cX5_worthAt 22 = .ok (.getfield 37, 3) := by decide +kernel
theorem dX5_worthAt_25 : decode cX5_worthAt 25 = .ok (.iload_n 1, 1) := by decide +kernel
theorem dX5_worthAt_26 : decode cX5_worthAt 26 = .ok (.baload, 1) := by decide +kernel
theorem dX5_worthAt_27 : decode cX5_worthAt 27 = .ok (.ifCond .ne 63, 3) := by decide +kernel
theorem dX5_worthAt_30 : decode cX5_worthAt 30 = .ok (.bipush (-100), 2) := by decide +kernel
theorem dX5_worthAt_32 : decode cX5_worthAt 32 = .ok (.istore_n 3, 1) := by decide +kernel
theorem dX5_worthAt_33 : decode cX5_worthAt 33 = .ok (.iconst 0, 1) := by decide +kernel
theorem dX5_worthAt_34 : decode cX5_worthAt 34 = .ok (.istore 4, 2) := by decide +kernel
theorem dX5_worthAt_36 : decode cX5_worthAt 36 = .ok (.iload 4, 2) := by decide +kernel
theorem dX5_worthAt_38 : decode cX5_worthAt 38 = .ok (.aload_n 0, 1) := by decide +kernel
theorem dX5_worthAt_39 : decode cX5_worthAt 39 = .ok (.getfield 47, 3) := by decide +kernel
theorem dX5_worthAt_42 : decode cX5_worthAt 42 = .ok (.if_icmp .ge 37, 3) := by decide +kernel
theorem dX5_worthAt_45 : decode cX5_worthAt 45 = .ok (.iload 4, 2) := by decide +kernel
theorem dX5_worthAt_47 : decode cX5_worthAt 47 = .ok (.aload_n 0, 1) := by decide +kernel
theorem dX5_worthAt_48 : decode cX5_worthAt 48 = .ok (.getfield 11, 3) := by decide +kernel
theorem dX5_worthAt_51 : decode cX5_worthAt 51 = .ok (.arraylength, 1) := by decide +kernel
theorem dX5_worthAt_52 : decode cX5_worthAt 52 = .ok (.if_icmp .ge 27, 3) := by decide +kernel
theorem dX5_worthAt_55 : decode cX5_worthAt 55 = .ok (.iload_n 3, 1) := by decide +kernel
theorem dX5_worthAt_56 : decode cX5_worthAt 56 = .ok (.aload_n 0, 1) := by decide +kernel
theorem dX5_worthAt_57 : decode cX5_worthAt 57 = .ok (.iload_n 1, 1) := by decide +kernel
theorem dX5_worthAt_58 : decode cX5_worthAt 58 = .ok (.aload_n 0, 1) := by decide +kernel
theorem dX5_worthAt_59 : decode cX5_worthAt 59 = .ok (.getfield 11, 3) := by decide +kernel
theorem dX5_worthAt_62 : decode cX5_worthAt 62 = .ok (.iload 4, 2) := by decide +kernel
theorem dX5_worthAt_64 : decode cX5_worthAt 64 = .ok (.iaload, 1) := by decide +kernel
theorem dX5_worthAt_65 : decode cX5_worthAt 65 = .ok (.iload_n 2, 1) := by decide +kernel
theorem dX5_worthAt_66 : decode cX5_worthAt 66 = .ok (.invokevirtual 56, 3) := by decide +kernel
theorem dX5_worthAt_69 : decode cX5_worthAt 69 = .ok (.invokestatic 21, 3) := by decide +kernel
theorem dX5_worthAt_72 : decode cX5_worthAt 72 = .ok (.istore_n 3, 1) := by decide +kernel
theorem dX5_worthAt_73 : decode cX5_worthAt 73 = .ok (.iinc 4 1, 3) := by decide +kernel
theorem dX5_worthAt_76 : decode cX5_worthAt 76 = .ok (.goto (-40), 3) := by decide +kernel
theorem dX5_worthAt_79 : decode cX5_worthAt 79 = .ok (.aload_n 0, 1) := by decide +kernel
theorem dX5_worthAt_80 : decode cX5_worthAt 80 = .ok (.getfield 37, 3) := by decide +kernel
theorem dX5_worthAt_83 : decode cX5_worthAt 83 = .ok (.iload_n 1, 1) := by decide +kernel
theorem dX5_worthAt_84 : decode cX5_worthAt 84 = .ok (.iload_n 3, 1) := by decide +kernel
theorem dX5_worthAt_85 : decode cX5_worthAt 85 = .ok (.bipush 7, 2) := by decide +kernel
theorem dX5_worthAt_87 : decode cX5_worthAt 87 = .ok (.iadd, 1) := by decide +kernel
theorem dX5_worthAt_88 : decode cX5_worthAt 88 = .ok (.i2b, 1) := by decide +kernel
theorem dX5_worthAt_89 : decode cX5_worthAt 89 = .ok (.bastore, 1) := by decide +kernel
theorem dX5_worthAt_90 : decode cX5_worthAt 90 = .ok (.aload_n 0, 1) := by decide +kernel
theorem dX5_worthAt_91 : decode cX5_worthAt 91 = .ok (.getfield 37, 3) := by decide +kernel
theorem dX5_worthAt_94 : decode cX5_worthAt 94 = .ok (.iload_n 1, 1) := by decide +kernel
theorem dX5_worthAt_95 : decode cX5_worthAt 95 = .ok (.baload, 1) := by decide +kernel
theorem dX5_worthAt_96 : decode cX5_worthAt 96 = .ok (.bipush 7, 2) := by decide +kernel
theorem dX5_worthAt_98 : decode cX5_worthAt 98 = .ok (.isub, 1) := by decide +kernel
theorem dX5_worthAt_99 : decode cX5_worthAt 99 = .ok (.ireturn, 1) := by decide +kernel
theorem dX5_gainAt_0 : decode cX5_gainAt 0 = .ok (.iload_n 1, 1) := by decide +kernel
theorem dX5_gainAt_1 : decode cX5_gainAt 1 = .ok (.iload_n 2, 1) := by decide +kernel
theorem dX5_gainAt_2 : decode cX5_gainAt 2 = .ok (.invokestatic 50, 3) := by decide +kernel
theorem dX5_gainAt_5 : decode cX5_gainAt 5 = .ok (.istore 4, 2) := by decide +kernel
theorem dX5_gainAt_7 : decode cX5_gainAt 7 = .ok (.iload 4, 2) := by decide +kernel
theorem dX5_gainAt_9 : decode cX5_gainAt 9 = .ok (.iload_n 1, 1) := by decide +kernel
theorem dX5_gainAt_10 : decode cX5_gainAt 10 = .ok (.if_icmp .ne 6, 3) := by decide +kernel
theorem dX5_gainAt_13 : decode cX5_gainAt 13 = .ok (.bipush (-100), 2) := by decide +kernel
theorem dX5_gainAt_15 : decode cX5_gainAt 15 = .ok (.ireturn, 1) := by decide +kernel
theorem dX5_gainAt_16 : decode cX5_gainAt 16 = .ok (.iload 4, 2) := by decide +kernel
theorem dX5_gainAt_18 : decode cX5_gainAt 18 = .ok (.aload_n 0, 1) := by decide +kernel
theorem dX5_gainAt_19 : decode cX5_gainAt 19 = .ok (.getfield 24, 3) := by decide +kernel
theorem dX5_gainAt_22 : decode cX5_gainAt 22 = .ok (.aload_n 0, 1) := by decide +kernel
theorem dX5_gainAt_23 : decode cX5_gainAt 23 = .ok (.getfield 28, 3) := by decide +kernel
theorem dX5_gainAt_26 : decode cX5_gainAt 26 = .ok (.invokestatic 62, 3) := by decide +kernel
theorem dX5_gainAt_29 : decode cX5_gainAt 29 = .ok (.istore 5, 2) := by decide +kernel
theorem dX5_gainAt_31 : decode cX5_gainAt 31 = .ok (.aload_n 0, 1) := by decide +kernel
theorem dX5_gainAt_32 : decode cX5_gainAt 32 = .ok (.iload 5, 2) := by decide +kernel
theorem dX5_gainAt_34 : decode cX5_gainAt 34 = .ok (.iload_n 3, 1) := by decide +kernel
theorem dX5_gainAt_35 : decode cX5_gainAt 35 = .ok (.iconst 1, 1) := by decide +kernel
theorem dX5_gainAt_36 : decode cX5_gainAt 36 = .ok (.iadd, 1) := by decide +kernel
theorem dX5_gainAt_37 : decode cX5_gainAt 37 = .ok (.invokevirtual 53, 3) := by decide +kernel
theorem dX5_gainAt_40 : decode cX5_gainAt 40 = .ok (.ineg, 1) := by decide +kernel
theorem dX5_gainAt_41 : decode cX5_gainAt 41 = .ok (.iload_n 1, 1) := by decide +kernel
theorem dX5_gainAt_42 : decode cX5_gainAt 42 = .ok (.iload 5, 2) := by decide +kernel
theorem dX5_gainAt_44 : decode cX5_gainAt 44 = .ok (.invokestatic 65, 3) := by decide +kernel
theorem dX5_gainAt_47 : decode cX5_gainAt 47 = .ok (.isub, 1) := by decide +kernel
theorem dX5_gainAt_48 : decode cX5_gainAt 48 = .ok (.ireturn, 1) := by decide +kernel
theorem dX6_init_0 : decode cX6_init 0 = .ok (.aload_n 0, 1) := by decide +kernel
theorem dX6_init_1 : decode cX6_init 1 = .ok (.invokespecial 3, 3) := by decide +kernel
theorem dX6_init_4 : decode cX6_init 4 = .ok (.aload_n 0, 1) := by decide +kernel
theorem dX6_init_5 : decode cX6_init 5 = .ok (.bipush 45, 2) := by decide +kernel
theorem dX6_init_7 : decode cX6_init 7 = .ok (.anewarray 9, 3) := by decide +kernel
theorem dX6_init_10 : decode cX6_init 10 = .ok (.putfield 11, 3) := by decide +kernel
theorem dX6_init_13 : decode cX6_init 13 = .ok (.return_, 1) := by decide +kernel
theorem dX6_of_0 : decode cX6_of 0 = .ok (.aload_n 1, 1) := by decide +kernel
theorem dX6_of_1 : decode cX6_of 1 = .ok (.getfield 17, 3) := by decide +kernel
theorem dX6_of_4 : decode cX6_of 4 = .ok (.iconst 2, 1) := by decide +kernel
theorem dX6_of_5 : decode cX6_of 5 = .ok (.isub, 1) := by decide +kernel
theorem dX6_of_6 : decode cX6_of 6 = .ok (.iconst 3, 1) := by decide +kernel
theorem dX6_of_7 : decode cX6_of 7 = .ok (.imul, 1) := by decide +kernel
theorem dX6_of_8 : decode cX6_of 8 = .ok (.aload_n 1, 1) := by decide +kernel
theorem dX6_of_9 : decode cX6_of 9 = .ok (.getfield 23, 3) := by decide +kernel
theorem dX6_of_12 : decode cX6_of 12 = .ok (.iadd, 1) := by decide +kernel
theorem dX6_of_13 : decode cX6_of 13 = .ok (.iconst 3, 1) := by decide +kernel
theorem dX6_of_14 : decode cX6_of 14 = .ok (.imul, 1) := by decide +kernel
theorem dX6_of_15 : decode cX6_of 15 = .ok (.aload_n 1, 1) := by decide +kernel
theorem dX6_of_16 : decode cX6_of 16 = .ok (.getfield 26, 3) := by decide +kernel
theorem dX6_of_19 : decode cX6_of 19 = .ok (.iadd, 1) := by decide +kernel
theorem dX6_of_20 : decode cX6_of 20 = .ok (.iconst 1, 1) := by decide +kernel
theorem dX6_of_21 : decode cX6_of 21 = .ok (.isub, 1) := by decide +kernel
theorem dX6_of_22 : decode cX6_of 22 = .ok (.istore_n 2, 1) := by decide +kernel
theorem dX6_of_23 : decode cX6_of 23 = .ok (.iload_n 2, 1) := by decide +kernel
theorem dX6_of_24 : decode cX6_of 24 = .ok (.ifCond .lt 12, 3) := by decide +kernel
theorem dX6_of_27 : decode cX6_of 27 = .ok (.iload_n 2, 1) := by decide +kernel
theorem dX6_of_28 : decode cX6_of 28 = .ok (.aload_n 0, 1) := by decide +kernel
theorem dX6_of_29 : decode cX6_of 29 = .ok (.getfield 11, 3) := by decide +kernel
theorem dX6_of_32 : decode cX6_of 32 = .ok (.arraylength, 1) := by decide +kernel
theorem dX6_of_33 : decode cX6_of 33 = .ok (.if_icmp .lt 23, 3) := by decide +kernel
theorem dX6_of_36 : decode cX6_of 36 = .ok (.new 9, 3) := by decide +kernel
theorem dX6_of_39 : decode cX6_of 39 = .ok (.dup, 1) := by decide +kernel
theorem dX6_of_40 : decode cX6_of 40 = .ok (.aload_n 1, 1) := by decide +kernel
theorem dX6_of_41 : decode cX6_of 41 = .ok (.getfield 17, 3) := by decide +kernel
theorem dX6_of_44 : decode cX6_of 44 = .ok (.aload_n 1, 1) := by decide +kernel
theorem dX6_of_45 : decode cX6_of 45 = .ok (.getfield 23, 3) := by decide +kernel
theorem dX6_of_48 : decode cX6_of 48 = .ok (.aload_n 1, 1) := by decide +kernel
theorem dX6_of_49 : decode cX6_of 49 = .ok (.getfield 26, 3) := by decide +kernel
theorem dX6_of_52 : decode cX6_of 52 = .ok (.invokespecial 29, 3) := by decide +kernel
theorem dX6_of_55 : decode cX6_of 55 = .ok (.areturn, 1) := by decide +kernel
theorem dX6_of_56 : decode cX6_of 56 = .ok (.aload_n 0, 1) := by decide +kernel
theorem dX6_of_57 : decode cX6_of 57 = .ok (.getfield 11, 3) := by decide +kernel
theorem dX6_of_60 : decode cX6_of 60 = .ok (.iload_n 2, 1) := by decide +kernel
theorem dX6_of_61 : decode cX6_of 61 = .ok (.aaload, 1) := by decide +kernel
theorem dX6_of_62 : decode cX6_of 62 = .ok (.astore_n 3, 1) := by decide +kernel
theorem dX6_of_63 : decode cX6_of 63 = .ok (.aload_n 3, 1) := by decide +kernel
theorem dX6_of_64 : decode cX6_of 64 = .ok (.ifnonnull 30, 3) := by decide +kernel
theorem dX6_of_67 : decode cX6_of 67 = .ok (.new 9, 3) := by decide +kernel
theorem dX6_of_70 : decode cX6_of 70 = .ok (.dup, 1) := by decide +kernel
theorem dX6_of_71 : decode cX6_of 71 = .ok (.aload_n 1, 1) := by decide +kernel
theorem dX6_of_72 : decode cX6_of 72 = .ok (.getfield 17, 3) := by decide +kernel
theorem dX6_of_75 : decode cX6_of 75 = .ok (.aload_n 1, 1) := by decide +kernel
theorem dX6_of_76 : decode cX6_of 76 = .ok (.getfield 23, 3) := by decide +kernel
theorem dX6_of_79 : decode cX6_of 79 = .ok (.aload_n 1, 1) := by decide +kernel
theorem dX6_of_80 : decode cX6_of 80 = .ok (.getfield 26, 3) := by decide +kernel
theorem dX6_of_83 : decode cX6_of 83 = .ok (.invokespecial 29, 3) := by decide +kernel
theorem dX6_of_86 : decode cX6_of 86 = .ok (.astore_n 3, 1) := by decide +kernel
theorem dX6_of_87 : decode cX6_of 87 = .ok (.aload_n 0, 1) := by decide +kernel
theorem dX6_of_88 : decode cX6_of 88 = .ok (.getfield 11, 3) := by decide +kernel
theorem dX6_of_91 : decode cX6_of 91 = .ok (.iload_n 2, 1) := by decide +kernel
theorem dX6_of_92 : decode cX6_of 92 = .ok (.aload_n 3, 1) := by decide +kernel
theorem dX6_of_93 : decode cX6_of 93 = .ok (.aastore, 1) := by decide +kernel
theorem dX6_of_94 : decode cX6_of 94 = .ok (.aload_n 3, 1) := by decide +kernel
theorem dX6_of_95 : decode cX6_of 95 = .ok (.areturn, 1) := by decide +kernel
theorem dX7_init_0 : decode cX7_init 0 = .ok (.aload_n 0, 1) := by decide +kernel
theorem dX7_init_1 : decode cX7_init 1 = .ok (.invokespecial 3, 3) := by decide +kernel
theorem dX7_init_4 : decode cX7_init 4 = .ok (.aload_n 0, 1) := by decide +kernel
theorem dX7_init_5 : decode cX7_init 5 = .ok (.bipush 120, 2) := by decide +kernel
theorem dX7_init_7 : decode cX7_init 7 = .ok (.newarray .char, 2) := by decide +kernel
theorem dX7_init_9 : decode cX7_init 9 = .ok (.putfield 9, 3) := by decide +kernel
theorem dX7_init_12 : decode cX7_init 12 = .ok (.return_, 1) := by decide +kernel
theorem dX7_takes_0 : decode cX7_takes 0 = .ok (.aload_n 0, 1) := by decide +kernel
theorem dX7_takes_1 : decode cX7_takes 1 = .ok (.getfield 15, 3) := by decide +kernel
theorem dX7_takes_4 : decode cX7_takes 4 = .ok (.ifCond .lt 15, 3) := by decide +kernel
theorem dX7_takes_7 : decode cX7_takes 7 = .ok (.aload_n 0, 1) := by decide +kernel
theorem dX7_takes_8 : decode cX7_takes 8 = .ok (.getfield 15, 3) := by decide +kernel
theorem dX7_takes_11 : decode cX7_takes 11 = .ok (.aload_n 0, 1) := by decide +kernel
theorem dX7_takes_12 : decode cX7_takes 12 = .ok (.getfield 9, 3) := by decide +kernel
theorem dX7_takes_15 : decode cX7_takes 15 = .ok (.arraylength, 1) := by decide +kernel
theorem dX7_takes_16 : decode cX7_takes 16 = .ok (.if_icmp .lt 5, 3) := by decide +kernel
theorem dX7_takes_19 : decode cX7_takes 19 = .ok (.iconst 0, 1) := by decide +kernel
theorem dX7_takes_20 : decode cX7_takes 20 = .ok (.ireturn, 1) := by decide +kernel
theorem dX7_takes_21 : decode cX7_takes 21 = .ok (.aload_n 0, 1) := by decide +kernel
theorem dX7_takes_22 : decode cX7_takes 22 = .ok (.getfield 9, 3) := by decide +kernel
theorem dX7_takes_25 : decode cX7_takes 25 = .ok (.aload_n 0, 1) := by decide +kernel
theorem dX7_takes_26 : decode cX7_takes 26 = .ok (.getfield 15, 3) := by decide +kernel
theorem dX7_takes_29 : decode cX7_takes 29 = .ok (.iload_n 1, 1) := by decide +kernel
theorem dX7_takes_30 : decode cX7_takes 30 = .ok (.castore, 1) := by decide +kernel
theorem dX7_takes_31 : decode cX7_takes 31 = .ok (.aload_n 0, 1) := by decide +kernel
theorem dX7_takes_32 : decode cX7_takes 32 = .ok (.dup, 1) := by decide +kernel
theorem dX7_takes_33 : decode cX7_takes 33 = .ok (.getfield 15, 3) := by decide +kernel
theorem dX7_takes_36 : decode cX7_takes 36 = .ok (.iconst 1, 1) := by decide +kernel
theorem dX7_takes_37 : decode cX7_takes 37 = .ok (.iadd, 1) := by decide +kernel
theorem dX7_takes_38 : decode cX7_takes 38 = .ok (.putfield 15, 3) := by decide +kernel
theorem dX7_takes_41 : decode cX7_takes 41 = .ok (.iconst 1, 1) := by decide +kernel
theorem dX7_takes_42 : decode cX7_takes 42 = .ok (.ireturn, 1) := by decide +kernel
theorem dX7_at_0 : decode cX7_at 0 = .ok (.iload_n 1, 1) := by decide +kernel
theorem dX7_at_1 : decode cX7_at 1 = .ok (.ifCond .lt 29, 3) := by decide +kernel
theorem dX7_at_4 : decode cX7_at 4 = .ok (.iload_n 1, 1) := by decide +kernel
theorem dX7_at_5 : decode cX7_at 5 = .ok (.aload_n 0, 1) := by decide +kernel
theorem dX7_at_6 : decode cX7_at 6 = .ok (.getfield 15, 3) := by decide +kernel
theorem dX7_at_9 : decode cX7_at 9 = .ok (.if_icmp .ge 21, 3) := by decide +kernel
theorem dX7_at_12 : decode cX7_at 12 = .ok (.iload_n 1, 1) := by decide +kernel
theorem dX7_at_13 : decode cX7_at 13 = .ok (.aload_n 0, 1) := by decide +kernel
theorem dX7_at_14 : decode cX7_at 14 = .ok (.getfield 9, 3) := by decide +kernel
theorem dX7_at_17 : decode cX7_at 17 = .ok (.arraylength, 1) := by decide +kernel
theorem dX7_at_18 : decode cX7_at 18 = .ok (.if_icmp .ge 12, 3) := by decide +kernel
theorem dX7_at_21 : decode cX7_at 21 = .ok (.aload_n 0, 1) := by decide +kernel
theorem dX7_at_22 : decode cX7_at 22 = .ok (.getfield 9, 3) := by decide +kernel
theorem dX7_at_25 : decode cX7_at 25 = .ok (.iload_n 1, 1) := by decide +kernel
theorem dX7_at_26 : decode cX7_at 26 = .ok (.caload, 1) := by decide +kernel
theorem dX7_at_27 : decode cX7_at 27 = .ok (.goto 4, 3) := by decide +kernel
theorem dX7_at_30 : decode cX7_at 30 = .ok (.iconst (-1), 1) := by decide +kernel
theorem dX7_at_31 : decode cX7_at 31 = .ok (.ireturn, 1) := by decide +kernel
theorem dX7_digit_0 : decode cX7_digit 0 = .ok (.aload_n 0, 1) := by decide +kernel
theorem dX7_digit_1 : decode cX7_digit 1 = .ok (.iload_n 1, 1) := by decide +kernel
theorem dX7_digit_2 : decode cX7_digit 2 = .ok (.invokevirtual 19, 3) := by decide +kernel
theorem dX7_digit_5 : decode cX7_digit 5 = .ok (.bipush 48, 2) := by decide +kernel
theorem dX7_digit_7 : decode cX7_digit 7 = .ok (.isub, 1) := by decide +kernel
theorem dX7_digit_8 : decode cX7_digit 8 = .ok (.ireturn, 1) := by decide +kernel
theorem dX7_hasDigit_0 : decode cX7_hasDigit 0 = .ok (.aload_n 0, 1) := by decide +kernel
theorem dX7_hasDigit_1 : decode cX7_hasDigit 1 = .ok (.iload_n 1, 1) := by decide +kernel
theorem dX7_hasDigit_2 : decode cX7_hasDigit 2 = .ok (.invokevirtual 19, 3) := by decide +kernel
theorem dX7_hasDigit_5 : decode cX7_hasDigit 5 = .ok (.bipush 48, 2) := by decide +kernel
theorem dX7_hasDigit_7 : decode cX7_hasDigit 7 = .ok (.bipush 57, 2) := by decide +kernel
theorem dX7_hasDigit_9 : decode cX7_hasDigit 9 = .ok (.invokestatic 23, 3) := by decide +kernel
theorem dX7_hasDigit_12 : decode cX7_hasDigit 12 = .ok (.ireturn, 1) := by decide +kernel
theorem dX7_isBetween_0 : decode cX7_isBetween 0 = .ok (.iload_n 0, 1) := by decide +kernel
theorem dX7_isBetween_1 : decode cX7_isBetween 1 = .ok (.iload_n 1, 1) := by decide +kernel
theorem dX7_isBetween_2 : decode cX7_isBetween 2 = .ok (.if_icmp .lt 12, 3) := by decide +kernel
theorem dX7_isBetween_5 : decode cX7_isBetween 5 = .ok (.iload_n 0, 1) := by decide +kernel
theorem dX7_isBetween_6 : decode cX7_isBetween 6 = .ok (.iload_n 2, 1) := by decide +kernel
theorem dX7_isBetween_7 : decode cX7_isBetween 7 = .ok (.if_icmp .gt 7, 3) := by decide +kernel
theorem dX7_isBetween_10 : decode cX7_isBetween 10 = .ok (.iconst 1, 1) := by decide +kernel
theorem dX7_isBetween_11 : decode cX7_isBetween 11 = .ok (.goto 4, 3) := by decide +kernel
theorem dX7_isBetween_14 : decode cX7_isBetween 14 = .ok (.iconst 0, 1) := by decide +kernel
theorem dX7_isBetween_15 : decode cX7_isBetween 15 = .ok (.ireturn, 1) := by decide +kernel
theorem dX7_behindStems_0 : decode cX7_behindStems 0 = .ok (.iconst 1, 1) := by decide +kernel
theorem dX7_behindStems_1 : decode cX7_behindStems 1 = .ok (.istore_n 1, 1) := by decide +kernel
theorem dX7_behindStems_2 : decode cX7_behindStems 2 = .ok (.iload_n 1, 1) := by decide +kernel
theorem dX7_behindStems_3 : decode cX7_behindStems 3 = .ok (.bipush 6, 2) := by decide +kernel
theorem dX7_behindStems_5 : decode cX7_behindStems 5 = .ok (.if_icmp .gt 24, 3) := by decide +kernel
theorem dX7_behindStems_8 : decode cX7_behindStems 8 = .ok (.aload_n 0, 1) := by decide +kernel
theorem dX7_behindStems_9 : decode cX7_behindStems 9 = .ok (.iload_n 1, 1) := by decide +kernel
theorem dX7_behindStems_10 : decode cX7_behindStems 10 = .ok (.invokevirtual 19, 3) := by decide +kernel
theorem dX7_behindStems_13 : decode cX7_behindStems 13 = .ok (.bipush 48, 2) := by decide +kernel
theorem dX7_behindStems_15 : decode cX7_behindStems 15 = .ok (.bipush 51, 2) := by decide +kernel
theorem dX7_behindStems_17 : decode cX7_behindStems 17 = .ok (.invokestatic 23, 3) := by decide +kernel
theorem dX7_behindStems_20 : decode cX7_behindStems 20 = .ok (.ifCond .eq 9, 3) := by decide +kernel
theorem dX7_behindStems_23 : decode cX7_behindStems 23 = .ok (.iinc 1 1, 3) := by decide +kernel
theorem dX7_behindStems_26 : decode cX7_behindStems 26 = .ok (.goto (-24), 3) := by decide +kernel
theorem dX7_behindStems_29 : decode cX7_behindStems 29 = .ok (.iload_n 1, 1) := by decide +kernel
theorem dX7_behindStems_30 : decode cX7_behindStems 30 = .ok (.ireturn, 1) := by decide +kernel
theorem dX7_stems_0 : decode cX7_stems 0 = .ok (.aload_n 0, 1) := by decide +kernel
theorem dX7_stems_1 : decode cX7_stems 1 = .ok (.invokevirtual 27, 3) := by decide +kernel
theorem dX7_stems_4 : decode cX7_stems 4 = .ok (.iconst 1, 1) := by decide +kernel
theorem dX7_stems_5 : decode cX7_stems 5 = .ok (.isub, 1) := by decide +kernel
theorem dX7_stems_6 : decode cX7_stems 6 = .ok (.ireturn, 1) := by decide +kernel
theorem dX7_hedge_0 : decode cX7_hedge 0 = .ok (.iconst 0, 1) := by decide +kernel
theorem dX7_hedge_1 : decode cX7_hedge 1 = .ok (.istore_n 1, 1) := by decide +kernel
theorem dX7_hedge_2 : decode cX7_hedge 2 = .ok (.aload_n 0, 1) := by decide +kernel
theorem dX7_hedge_3 : decode cX7_hedge 3 = .ok (.invokevirtual 31, 3) := by decide +kernel
theorem dX7_hedge_6 : decode cX7_hedge 6 = .ok (.istore_n 2, 1) := by decide +kernel
theorem dX7_hedge_7 : decode cX7_hedge 7 = .ok (.iload_n 2, 1) := by decide +kernel
theorem dX7_hedge_8 : decode cX7_hedge 8 = .ok (.ifCond .le 19, 3) := by decide +kernel
theorem dX7_hedge_11 : decode cX7_hedge 11 = .ok (.iconst 4, 1) := by decide +kernel
theorem dX7_hedge_12 : decode cX7_hedge 12 = .ok (.iload_n 1, 1) := by decide +kernel
theorem dX7_hedge_13 : decode cX7_hedge 13 = .ok (.imul, 1) := by decide +kernel
theorem dX7_hedge_14 : decode cX7_hedge 14 = .ok (.aload_n 0, 1) := by decide +kernel
theorem dX7_hedge_15 : decode cX7_hedge 15 = .ok (.iload_n 2, 1) := by decide +kernel
theorem dX7_hedge_16 : decode cX7_hedge 16 = .ok (.invokevirtual 34, 3) := by decide +kernel
theorem dX7_hedge_19 : decode cX7_hedge 19 = .ok (.iadd, 1) := by decide +kernel
theorem dX7_hedge_20 : decode cX7_hedge 20 = .ok (.istore_n 1, 1) := by decide +kernel
theorem dX7_hedge_21 : decode cX7_hedge 21 = .ok (.iinc 2 (-1), 3) := by decide +kernel
theorem dX7_hedge_24 : decode cX7_hedge 24 = .ok (.goto (-17), 3) := by decide +kernel
theorem dX7_hedge_27 : decode cX7_hedge 27 = .ok (.iload_n 1, 1) := by decide +kernel
theorem dX7_hedge_28 : decode cX7_hedge 28 = .ok (.ireturn, 1) := by decide +kernel
theorem dX7_firstFault_0 : decode cX7_firstFault 0 = .ok (.aload_n 0, 1) := by decide +kernel
theorem dX7_firstFault_1 : decode cX7_firstFault 1 = .ok (.iconst 0, 1) := by decide +kernel
theorem dX7_firstFault_2 : decode cX7_firstFault 2 = .ok (.invokevirtual 19, 3) := by decide +kernel
theorem dX7_firstFault_5 : decode cX7_firstFault 5 = .ok (.bipush 72, 2) := by decide +kernel
theorem dX7_firstFault_7 : decode cX7_firstFault 7 = .ok (.if_icmp .eq 5, 3) := by decide +kernel
theorem dX7_firstFault_10 : decode cX7_firstFault 10 = .ok (.iconst 0, 1) := by decide +kernel
theorem dX7_firstFault_11 : decode cX7_firstFault 11 = .ok (.ireturn, 1) := by decide +kernel
theorem dX7_firstFault_12 : decode cX7_firstFault 12 = .ok (.aload_n 0, 1) := by decide +kernel
theorem dX7_firstFault_13 : decode cX7_firstFault 13 = .ok (.invokevirtual 27, 3) := by decide +kernel
theorem dX7_firstFault_16 : decode cX7_firstFault 16 = .ok (.istore_n 1, 1) := by decide +kernel
theorem dX7_firstFault_17 : decode cX7_firstFault 17 = .ok (.iload_n 1, 1) := by decide +kernel
theorem dX7_firstFault_18 : decode cX7_firstFault 18 = .ok (.iconst 2, 1) := by decide +kernel
theorem dX7_firstFault_19 : decode cX7_firstFault 19 = .ok (.if_icmp .gt 5, 3) := by decide +kernel
theorem dX7_firstFault_22 : decode cX7_firstFault 22 = .ok (.iload_n 1, 1) := by decide +kernel
theorem dX7_firstFault_23 : decode cX7_firstFault 23 = .ok (.ireturn, 1) := by decide +kernel
theorem dX7_firstFault_24 : decode cX7_firstFault 24 = .ok (.iload_n 1, 1) := by decide +kernel
theorem dX7_firstFault_25 : decode cX7_firstFault 25 = .ok (.aload_n 0, 1) := by decide +kernel
theorem dX7_firstFault_26 : decode cX7_firstFault 26 = .ok (.getfield 15, 3) := by decide +kernel
theorem dX7_firstFault_29 : decode cX7_firstFault 29 = .ok (.if_icmp .ge 32, 3) := by decide +kernel
theorem dX7_firstFault_32 : decode cX7_firstFault 32 = .ok (.aload_n 0, 1) := by decide +kernel
theorem dX7_firstFault_33 : decode cX7_firstFault 33 = .ok (.iload_n 1, 1) := by decide +kernel
theorem dX7_firstFault_34 : decode cX7_firstFault 34 = .ok (.invokevirtual 37, 3) := by decide +kernel
theorem dX7_firstFault_37 : decode cX7_firstFault 37 = .ok (.istore_n 2, 1) := by decide +kernel
theorem dX7_firstFault_38 : decode cX7_firstFault 38 = .ok (.iload_n 2, 1) := by decide +kernel
theorem dX7_firstFault_39 : decode cX7_firstFault 39 = .ok (.iconst (-1), 1) := by decide +kernel
theorem dX7_firstFault_40 : decode cX7_firstFault 40 = .ok (.if_icmp .eq 5, 3) := by decide +kernel
theorem dX7_firstFault_43 : decode cX7_firstFault 43 = .ok (.iload_n 2, 1) := by decide +kernel
theorem dX7_firstFault_44 : decode cX7_firstFault 44 = .ok (.ireturn, 1) := by decide +kernel
theorem dX7_firstFault_45 : decode cX7_firstFault 45 = .ok (.iload_n 1, 1) := by decide +kernel
theorem dX7_firstFault_46 : decode cX7_firstFault 46 = .ok (.iconst 1, 1) := by decide +kernel
theorem dX7_firstFault_47 : decode cX7_firstFault 47 = .ok (.aload_n 0, 1) := by decide +kernel
theorem dX7_firstFault_48 : decode cX7_firstFault 48 = .ok (.iload_n 1, 1) := by decide +kernel
theorem dX7_firstFault_49 : decode cX7_firstFault 49 = .ok (.invokevirtual 19, 3) := by decide +kernel
theorem dX7_firstFault_52 : decode cX7_firstFault 52 = .ok (.invokestatic 40, 3) := by decide +kernel
theorem dX7_firstFault_55 : decode cX7_firstFault 55 = .ok (.iadd, 1) := by decide +kernel
theorem dX7_firstFault_56 : decode cX7_firstFault 56 = .ok (.iadd, 1) := by decide +kernel
theorem dX7_firstFault_57 : decode cX7_firstFault 57 = .ok (.istore_n 1, 1) := by decide +kernel
theorem dX7_firstFault_58 : decode cX7_firstFault 58 = .ok (.goto (-34), 3) := by decide +kernel
theorem dX7_firstFault_61 : decode cX7_firstFault 61 = .ok (.iconst (-1), 1) := by decide +kernel
theorem dX7_firstFault_62 : decode cX7_firstFault 62 = .ok (.ireturn, 1) := by decide +kernel
theorem dX7_faultInCommand_0 : decode cX7_faultInCommand 0 = .ok (.aload_n 0, 1) := by decide +kernel
theorem dX7_faultInCommand_1 : decode cX7_faultInCommand 1 = .ok (.iload_n 1, 1) := by decide +kernel
theorem dX7_faultInCommand_2 : decode cX7_faultInCommand 2 = .ok (.invokevirtual 19, 3) := by decide +kernel
theorem dX7_faultInCommand_5 : decode cX7_faultInCommand 5 = .ok (.istore_n 2, 1) := by decide +kernel
theorem dX7_faultInCommand_6 : decode cX7_faultInCommand 6 = .ok (.iload_n 2, 1) := by decide +kernel
theorem dX7_faultInCommand_7 : decode cX7_faultInCommand 7 = .ok (.invokestatic 43, 3) := by decide +kernel
theorem dX7_faultInCommand_10 : decode cX7_faultInCommand 10 = .ok (.ifCond .ne 5, 3) := by decide +kernel
theorem dX7_faultInCommand_13 : decode cX7_faultInCommand 13 = .ok (.iload_n 1, 1) := by decide +kernel
theorem dX7_faultInCommand_14 : decode cX7_faultInCommand 14 = .ok (.ireturn, 1) := by decide +kernel
theorem dX7_faultInCommand_15 : decode cX7_faultInCommand 15 = .ok (.iload_n 2, 1) := by decide +kernel
theorem dX7_faultInCommand_16 : decode cX7_faultInCommand 16 = .ok (.invokestatic 40, 3) := by decide +kernel
theorem dX7_faultInCommand_19 : decode cX7_faultInCommand 19 = .ok (.istore_n 3, 1) := by decide +kernel
theorem dX7_faultInCommand_20 : decode cX7_faultInCommand 20 = .ok (.iconst 1, 1) := by decide +kernel
theorem dX7_faultInCommand_21 : decode cX7_faultInCommand 21 = .ok (.istore 4, 2) := by decide +kernel
theorem dX7_faultInCommand_23 : decode cX7_faultInCommand 23 = .ok (.iload 4, 2) := by decide +kernel
theorem dX7_faultInCommand_25 : decode cX7_faultInCommand 25 = .ok (.iload_n 3, 1) := by decide +kernel
theorem dX7_faultInCommand_26 : decode cX7_faultInCommand 26 = .ok (.if_icmp .gt 31, 3) := by decide +kernel
theorem dX7_faultInCommand_29 : decode cX7_faultInCommand 29 = .ok (.iload_n 2, 1) := by decide +kernel
theorem dX7_faultInCommand_30 : decode cX7_faultInCommand 30 = .ok (.iload 4, 2) := by decide +kernel
theorem dX7_faultInCommand_32 : decode cX7_faultInCommand 32 = .ok (.aload_n 0, 1) := by decide +kernel
theorem dX7_faultInCommand_33 : decode cX7_faultInCommand 33 = .ok (.iload_n 1, 1) := by decide +kernel
theorem dX7_faultInCommand_34 : decode cX7_faultInCommand 34 = .ok (.iload 4, 2) := by decide +kernel
theorem dX7_faultInCommand_36 : decode cX7_faultInCommand 36 = .ok (.iadd, 1) := by decide +kernel
theorem dX7_faultInCommand_37 : decode cX7_faultInCommand 37 = .ok (.invokevirtual 19, 3) := by decide +kernel
theorem dX7_faultInCommand_40 : decode cX7_faultInCommand 40 = .ok (.invokestatic 47, 3) := by decide +kernel
theorem dX7_faultInCommand_43 : decode cX7_faultInCommand 43 = .ok (.ifCond .ne 8, 3) := by decide +kernel
theorem dX7_faultInCommand_46 : decode cX7_faultInCommand 46 = .ok (.iload_n 1, 1) := by decide +kernel
theorem dX7_faultInCommand_47 : decode cX7_faultInCommand 47 = .ok (.iload 4, 2) := by decide +kernel
theorem dX7_faultInCommand_49 : decode cX7_faultInCommand 49 = .ok (.iadd, 1) := by decide +kernel
theorem dX7_faultInCommand_50 : decode cX7_faultInCommand 50 = .ok (.ireturn, 1) := by decide +kernel
theorem dX7_faultInCommand_51 : decode cX7_faultInCommand 51 = .ok (.iinc 4 1, 3) := by decide +kernel
theorem dX7_faultInCommand_54 : decode cX7_faultInCommand 54 = .ok (.goto (-31), 3) := by decide +kernel
theorem dX7_faultInCommand_57 : decode cX7_faultInCommand 57 = .ok (.iconst (-1), 1) := by decide +kernel
theorem dX7_faultInCommand_58 : decode cX7_faultInCommand 58 = .ok (.ireturn, 1) := by decide +kernel
theorem dX7_isCommand_0 : decode cX7_isCommand 0 = .ok (.iload_n 0, 1) := by decide +kernel
theorem dX7_isCommand_1 : decode cX7_isCommand 1 = .ok (.bipush 99, 2) := by decide +kernel
theorem dX7_isCommand_3 : decode cX7_isCommand 3 = .ok (.if_icmp .eq 27, 3) := by decide +kernel
theorem dX7_isCommand_6 : decode cX7_isCommand 6 = .ok (.iload_n 0, 1) := by decide +kernel
theorem dX7_isCommand_7 : decode cX7_isCommand 7 = .ok (.bipush 119, 2) := by decide +kernel
theorem dX7_isCommand_9 : decode cX7_isCommand 9 = .ok (.if_icmp .eq 21, 3) := by decide +kernel
theorem dX7_isCommand_12 : decode cX7_isCommand 12 = .ok (.iload_n 0, 1) := by decide +kernel
theorem dX7_isCommand_13 : decode cX7_isCommand 13 = .ok (.bipush 103, 2) := by decide +kernel
theorem dX7_isCommand_15 : decode cX7_isCommand 15 = .ok (.if_icmp .eq 15, 3) := by decide +kernel
theorem dX7_isCommand_18 : decode cX7_isCommand 18 = .ok (.iload_n 0, 1) := by decide +kernel
theorem dX7_isCommand_19 : decode cX7_isCommand 19 = .ok (.bipush 112, 2) := by decide +kernel
theorem dX7_isCommand_21 : decode cX7_isCommand 21 = .ok (.if_icmp .eq 9, 3) := by decide +kernel
theorem dX7_isCommand_24 : decode cX7_isCommand 24 = .ok (.iload_n 0, 1) := by decide +kernel
theorem dX7_isCommand_25 : decode cX7_isCommand 25 = .ok (.bipush 98, 2) := by decide +kernel
theorem dX7_isCommand_27 : decode cX7_isCommand 27 = .ok (.if_icmp .ne 7, 3) := by decide +kernel
theorem dX7_isCommand_30 : decode cX7_isCommand 30 = .ok (.iconst 1, 1) := by decide +kernel
theorem dX7_isCommand_31 : decode cX7_isCommand 31 = .ok (.goto 4, 3) := by decide +kernel
theorem dX7_isCommand_34 : decode cX7_isCommand 34 = .ok (.iconst 0, 1) := by decide +kernel
theorem dX7_isCommand_35 : decode cX7_isCommand 35 = .ok (.ireturn, 1) := by decide +kernel
theorem dX7_digitsBehind_0 : decode cX7_digitsBehind 0 = .ok (.iload_n 0, 1) := by decide +kernel
theorem dX7_digitsBehind_1 : decode cX7_digitsBehind 1 = .ok (.bipush 99, 2) := by decide +kernel
theorem dX7_digitsBehind_3 : decode cX7_digitsBehind 3 = .ok (.if_icmp .ne 5, 3) := by decide +kernel
theorem dX7_digitsBehind_6 : decode cX7_digitsBehind 6 = .ok (.iconst 3, 1) := by decide +kernel
theorem dX7_digitsBehind_7 : decode cX7_digitsBehind 7 = .ok (.ireturn, 1) := by decide +kernel
theorem dX7_digitsBehind_8 : decode cX7_digitsBehind 8 = .ok (.iload_n 0, 1) := by decide +kernel
theorem dX7_digitsBehind_9 : decode cX7_digitsBehind 9 = .ok (.bipush 119, 2) := by decide +kernel
theorem dX7_digitsBehind_11 : decode cX7_digitsBehind 11 = .ok (.if_icmp .eq 9, 3) := by decide +kernel
theorem dX7_digitsBehind_14 : decode cX7_digitsBehind 14 = .ok (.iload_n 0, 1) := by decide +kernel
theorem dX7_digitsBehind_15 : decode cX7_digitsBehind 15 = .ok (.bipush 103, 2) := by decide +kernel
theorem dX7_digitsBehind_17 : decode cX7_digitsBehind 17 = .ok (.if_icmp .ne 7, 3) := by decide +kernel
theorem dX7_digitsBehind_20 : decode cX7_digitsBehind 20 = .ok (.iconst 1, 1) := by decide +kernel
theorem dX7_digitsBehind_21 : decode cX7_digitsBehind 21 = .ok (.goto 4, 3) := by decide +kernel
theorem dX7_digitsBehind_24 : decode cX7_digitsBehind 24 = .ok (.iconst 0, 1) := by decide +kernel
theorem dX7_digitsBehind_25 : decode cX7_digitsBehind 25 = .ok (.ireturn, 1) := by decide +kernel
theorem dX7_allowsDigit_0 : decode cX7_allowsDigit 0 = .ok (.iload_n 0, 1) := by decide +kernel
theorem dX7_allowsDigit_1 : decode cX7_allowsDigit 1 = .ok (.bipush 103, 2) := by decide +kernel
theorem dX7_allowsDigit_3 : decode cX7_allowsDigit 3 = .ok (.if_icmp .ne 12, 3) := by decide +kernel
theorem dX7_allowsDigit_6 : decode cX7_allowsDigit 6 = .ok (.iload_n 2, 1) := by decide +kernel
theorem dX7_allowsDigit_7 : decode cX7_allowsDigit 7 = .ok (.bipush 48, 2) := by decide +kernel
theorem dX7_allowsDigit_9 : decode cX7_allowsDigit 9 = .ok (.bipush 50, 2) := by decide +kernel
theorem dX7_allowsDigit_11 : decode cX7_allowsDigit 11 = .ok (.invokestatic 23, 3) := by decide +kernel
theorem dX7_allowsDigit_14 : decode cX7_allowsDigit 14 = .ok (.ireturn, 1) := by decide +kernel
theorem dX7_allowsDigit_15 : decode cX7_allowsDigit 15 = .ok (.iload_n 0, 1) := by decide +kernel
theorem dX7_allowsDigit_16 : decode cX7_allowsDigit 16 = .ok (.bipush 99, 2) := by decide +kernel
theorem dX7_allowsDigit_18 : decode cX7_allowsDigit 18 = .ok (.if_icmp .ne 12, 3) := by decide +kernel
theorem dX7_allowsDigit_21 : decode cX7_allowsDigit 21 = .ok (.iload_n 1, 1) := by decide +kernel
theorem dX7_allowsDigit_22 : decode cX7_allowsDigit 22 = .ok (.iconst 3, 1) := by decide +kernel
theorem dX7_allowsDigit_23 : decode cX7_allowsDigit 23 = .ok (.if_icmp .ne 7, 3) := by decide +kernel
theorem dX7_allowsDigit_26 : decode cX7_allowsDigit 26 = .ok (.iconst 1, 1) := by decide +kernel
theorem dX7_allowsDigit_27 : decode cX7_allowsDigit 27 = .ok (.goto 4, 3) := by decide +kernel
theorem dX7_allowsDigit_30 : decode cX7_allowsDigit 30 = .ok (.iconst 0, 1) := by decide +kernel
theorem dX7_allowsDigit_31 : decode cX7_allowsDigit 31 = .ok (.istore_n 3, 1) := by decide +kernel
theorem dX7_allowsDigit_32 : decode cX7_allowsDigit 32 = .ok (.iload_n 3, 1) := by decide +kernel
theorem dX7_allowsDigit_33 : decode cX7_allowsDigit 33 = .ok (.ifCond .eq 14, 3) := by decide +kernel
theorem dX7_allowsDigit_36 : decode cX7_allowsDigit 36 = .ok (.iload_n 2, 1) := by decide +kernel
theorem dX7_allowsDigit_37 : decode cX7_allowsDigit 37 = .ok (.bipush 49, 2) := by decide +kernel
theorem dX7_allowsDigit_39 : decode cX7_allowsDigit 39 = .ok (.bipush 51, 2) := by decide +kernel
theorem dX7_allowsDigit_41 : decode cX7_allowsDigit 41 = .ok (.invokestatic 23, 3) := by decide +kernel
theorem dX7_allowsDigit_44 : decode cX7_allowsDigit 44 = .ok (.goto 11, 3) := by decide +kernel
theorem dX7_allowsDigit_47 : decode cX7_allowsDigit 47 = .ok (.iload_n 2, 1) := by decide +kernel
theorem dX7_allowsDigit_48 : decode cX7_allowsDigit 48 = .ok (.bipush 48, 2) := by decide +kernel
theorem dX7_allowsDigit_50 : decode cX7_allowsDigit 50 = .ok (.bipush 53, 2) := by decide +kernel
theorem dX7_allowsDigit_52 : decode cX7_allowsDigit 52 = .ok (.invokestatic 23, 3) := by decide +kernel
theorem dX7_allowsDigit_55 : decode cX7_allowsDigit 55 = .ok (.ireturn, 1) := by decide +kernel
theorem dX8_init_0 : decode cX8_init 0 = .ok (.aload_n 0, 1) := by decide +kernel
theorem dX8_init_1 : decode cX8_init 1 = .ok (.invokespecial 3, 3) := by decide +kernel
theorem dX8_init_4 : decode cX8_init 4 = .ok (.aload_n 0, 1) := by decide +kernel
theorem dX8_init_5 : decode cX8_init 5 = .ok (.new 9, 3) := by decide +kernel
theorem dX8_init_8 : decode cX8_init 8 = .ok (.dup, 1) := by decide +kernel
theorem dX8_init_9 : decode cX8_init 9 = .ok (.invokespecial 11, 3) := by decide +kernel
theorem dX8_init_12 : decode cX8_init 12 = .ok (.putfield 12, 3) := by decide +kernel
theorem dX8_init_15 : decode cX8_init 15 = .ok (.aload_n 0, 1) := by decide +kernel
theorem dX8_init_16 : decode cX8_init 16 = .ok (.new 9, 3) := by decide +kernel
theorem dX8_init_19 : decode cX8_init 19 = .ok (.dup, 1) := by decide +kernel
theorem dX8_init_20 : decode cX8_init 20 = .ok (.invokespecial 11, 3) := by decide +kernel
theorem dX8_init_23 : decode cX8_init 23 = .ok (.putfield 16, 3) := by decide +kernel
theorem dX8_init_26 : decode cX8_init 26 = .ok (.aload_n 0, 1) := by decide +kernel
theorem dX8_init_27 : decode cX8_init 27 = .ok (.new 19, 3) := by decide +kernel
theorem dX8_init_30 : decode cX8_init 30 = .ok (.dup, 1) := by decide +kernel
theorem dX8_init_31 : decode cX8_init 31 = .ok (.invokespecial 21, 3) := by decide +kernel
theorem dX8_init_34 : decode cX8_init 34 = .ok (.putfield 22, 3) := by decide +kernel
theorem dX8_init_37 : decode cX8_init 37 = .ok (.aload_n 0, 1) := by decide +kernel
theorem dX8_init_38 : decode cX8_init 38 = .ok (.iconst 2, 1) := by decide +kernel
theorem dX8_init_39 : decode cX8_init 39 = .ok (.anewarray 9, 3) := by decide +kernel
theorem dX8_init_42 : decode cX8_init 42 = .ok (.putfield 26, 3) := by decide +kernel
theorem dX8_init_45 : decode cX8_init 45 = .ok (.aload_n 0, 1) := by decide +kernel
theorem dX8_init_46 : decode cX8_init 46 = .ok (.new 30, 3) := by decide +kernel
theorem dX8_init_49 : decode cX8_init 49 = .ok (.dup, 1) := by decide +kernel
theorem dX8_init_50 : decode cX8_init 50 = .ok (.invokespecial 32, 3) := by decide +kernel
theorem dX8_init_53 : decode cX8_init 53 = .ok (.putfield 33, 3) := by decide +kernel
theorem dX8_init_56 : decode cX8_init 56 = .ok (.aload_n 0, 1) := by decide +kernel
theorem dX8_init_57 : decode cX8_init 57 = .ok (.new 37, 3) := by decide +kernel
theorem dX8_init_60 : decode cX8_init 60 = .ok (.dup, 1) := by decide +kernel
theorem dX8_init_61 : decode cX8_init 61 = .ok (.invokespecial 39, 3) := by decide +kernel
theorem dX8_init_64 : decode cX8_init 64 = .ok (.putfield 40, 3) := by decide +kernel
theorem dX8_init_67 : decode cX8_init 67 = .ok (.return_, 1) := by decide +kernel
theorem dX8_append_0 : decode cX8_append 0 = .ok (.iload_n 1, 1) := by decide +kernel
theorem dX8_append_1 : decode cX8_append 1 = .ok (.ifCond .lt 10, 3) := by decide +kernel
theorem dX8_append_4 : decode cX8_append 4 = .ok (.iload_n 1, 1) := by decide +kernel
theorem dX8_append_5 : decode cX8_append 5 = .ok (.sipush 255, 3) := by decide +kernel
theorem dX8_append_8 : decode cX8_append 8 = .ok (.if_icmp .le 13, 3) := by decide +kernel
theorem dX8_append_11 : decode cX8_append 11 = .ok (.new 44, 3) := by decide +kernel
theorem dX8_append_14 : decode cX8_append 14 = .ok (.dup, 1) := by decide +kernel
theorem dX8_append_15 : decode cX8_append 15 = .ok (.ldc 46, 2) := by decide +kernel
theorem dX8_append_17 : decode cX8_append 17 = .ok (.invokespecial 48, 3) := by decide +kernel
theorem dX8_append_20 : decode cX8_append 20 = .ok (.athrow, 1) := by decide +kernel
theorem dX8_append_21 : decode cX8_append 21 = .ok (.aload_n 0, 1) := by decide +kernel
theorem dX8_append_22 : decode cX8_append 22 = .ok (.getfield 33, 3) := by decide +kernel
theorem dX8_append_25 : decode cX8_append 25 = .ok (.iload_n 1, 1) := by decide +kernel
theorem dX8_append_26 : decode cX8_append 26 = .ok (.i2c, 1) := by decide +kernel
theorem dX8_append_27 : decode cX8_append 27 = .ok (.invokevirtual 51, 3) := by decide +kernel
theorem dX8_append_30 : decode cX8_append 30 = .ok (.ifCond .ne 13, 3) := by decide +kernel
theorem dX8_append_33 : decode cX8_append 33 = .ok (.new 55, 3) := by decide +kernel
theorem dX8_append_36 : decode cX8_append 36 = .ok (.dup, 1) := by decide +kernel
theorem dX8_append_37 : decode cX8_append 37 = .ok (.ldc 57, 2) := by decide +kernel
theorem dX8_append_39 : decode cX8_append 39 = .ok (.invokespecial 59, 3) := by decide +kernel
theorem dX8_append_42 : decode cX8_append 42 = .ok (.athrow, 1) := by decide +kernel
theorem dX8_append_43 : decode cX8_append 43 = .ok (.aload_n 0, 1) := by decide +kernel
theorem dX8_append_44 : decode cX8_append 44 = .ok (.getfield 33, 3) := by decide +kernel
theorem dX8_append_47 : decode cX8_append 47 = .ok (.getfield 60, 3) := by decide +kernel
theorem dX8_append_50 : decode cX8_append 50 = .ok (.ireturn, 1) := by decide +kernel
theorem dX8_load_0 : decode cX8_load 0 = .ok (.aload_n 0, 1) := by decide +kernel
theorem dX8_load_1 : decode cX8_load 1 = .ok (.getfield 33, 3) := by decide +kernel
theorem dX8_load_4 : decode cX8_load 4 = .ok (.invokevirtual 64, 3) := by decide +kernel
theorem dX8_load_7 : decode cX8_load 7 = .ok (.iconst (-1), 1) := by decide +kernel
theorem dX8_load_8 : decode cX8_load 8 = .ok (.if_icmp .eq 13, 3) := by decide +kernel
theorem dX8_load_11 : decode cX8_load 11 = .ok (.new 55, 3) := by decide +kernel
theorem dX8_load_14 : decode cX8_load 14 = .ok (.dup, 1) := by decide +kernel
theorem dX8_load_15 : decode cX8_load 15 = .ok (.ldc 68, 2) := by decide +kernel
theorem dX8_load_17 : decode cX8_load 17 = .ok (.invokespecial 59, 3) := by decide +kernel
theorem dX8_load_20 : decode cX8_load 20 = .ok (.athrow, 1) := by decide +kernel
theorem dX8_load_21 : decode cX8_load 21 = .ok (.aload_n 0, 1) := by decide +kernel
theorem dX8_load_22 : decode cX8_load 22 = .ok (.getfield 12, 3) := by decide +kernel
theorem dX8_load_25 : decode cX8_load 25 = .ok (.aload_n 0, 1) := by decide +kernel
theorem dX8_load_26 : decode cX8_load 26 = .ok (.getfield 33, 3) := by decide +kernel
theorem dX8_load_29 : decode cX8_load 29 = .ok (.invokevirtual 70, 3) := by decide +kernel
theorem dX8_load_32 : decode cX8_load 32 = .ok (.aload_n 0, 1) := by decide +kernel
theorem dX8_load_33 : decode cX8_load 33 = .ok (.getfield 33, 3) := by decide +kernel
theorem dX8_load_36 : decode cX8_load 36 = .ok (.invokevirtual 73, 3) := by decide +kernel
theorem dX8_load_39 : decode cX8_load 39 = .ok (.invokevirtual 76, 3) := by decide +kernel
theorem dX8_load_42 : decode cX8_load 42 = .ok (.aload_n 0, 1) := by decide +kernel
theorem dX8_load_43 : decode cX8_load 43 = .ok (.getfield 22, 3) := by decide +kernel
theorem dX8_load_46 : decode cX8_load 46 = .ok (.invokevirtual 80, 3) := by decide +kernel
theorem dX8_load_49 : decode cX8_load 49 = .ok (.iconst 0, 1) := by decide +kernel
theorem dX8_load_50 : decode cX8_load 50 = .ok (.istore_n 1, 1) := by decide +kernel
theorem dX8_load_51 : decode cX8_load 51 = .ok (.iload_n 1, 1) := by decide +kernel
theorem dX8_load_52 : decode cX8_load 52 = .ok (.aload_n 0, 1) := by decide +kernel
theorem dX8_load_53 : decode cX8_load 53 = .ok (.getfield 26, 3) := by decide +kernel
theorem dX8_load_56 : decode cX8_load 56 = .ok (.arraylength, 1) := by decide +kernel
theorem dX8_load_57 : decode cX8_load 57 = .ok (.if_icmp .ge 16, 3) := by decide +kernel
theorem dX8_load_60 : decode cX8_load 60 = .ok (.aload_n 0, 1) := by decide +kernel
theorem dX8_load_61 : decode cX8_load 61 = .ok (.getfield 26, 3) := by decide +kernel
theorem dX8_load_64 : decode cX8_load 64 = .ok (.iload_n 1, 1) := by decide +kernel
theorem dX8_load_65 : decode cX8_load 65 = .ok (.aconst_null, 1) := by decide +kernel
theorem dX8_load_66 : decode cX8_load 66 = .ok (.aastore, 1) := by decide +kernel
theorem dX8_load_67 : decode cX8_load 67 = .ok (.iinc 1 1, 3) := by decide +kernel
theorem dX8_load_70 : decode cX8_load 70 = .ok (.goto (-19), 3) := by decide +kernel
theorem dX8_load_73 : decode cX8_load 73 = .ok (.iconst 0, 1) := by decide +kernel
theorem dX8_load_74 : decode cX8_load 74 = .ok (.istore_n 1, 1) := by decide +kernel
theorem dX8_load_75 : decode cX8_load 75 = .ok (.iconst 1, 1) := by decide +kernel
theorem dX8_load_76 : decode cX8_load 76 = .ok (.istore_n 2, 1) := by decide +kernel
theorem dX8_load_77 : decode cX8_load 77 = .ok (.iload_n 2, 1) := by decide +kernel
theorem dX8_load_78 : decode cX8_load 78 = .ok (.aload_n 0, 1) := by decide +kernel
theorem dX8_load_79 : decode cX8_load 79 = .ok (.getfield 33, 3) := by decide +kernel
theorem dX8_load_82 : decode cX8_load 82 = .ok (.getfield 60, 3) := by decide +kernel
theorem dX8_load_85 : decode cX8_load 85 = .ok (.if_icmp .ge 31, 3) := by decide +kernel
theorem dX8_load_88 : decode cX8_load 88 = .ok (.aload_n 0, 1) := by decide +kernel
theorem dX8_load_89 : decode cX8_load 89 = .ok (.getfield 33, 3) := by decide +kernel
theorem dX8_load_92 : decode cX8_load 92 = .ok (.iload_n 2, 1) := by decide +kernel
theorem dX8_load_93 : decode cX8_load 93 = .ok (.invokevirtual 83, 3) := by decide +kernel
theorem dX8_load_96 : decode cX8_load 96 = .ok (.ifCond .ne 14, 3) := by decide +kernel
theorem dX8_load_99 : decode cX8_load 99 = .ok (.aload_n 0, 1) := by decide +kernel
theorem dX8_load_100 : decode cX8_load 100 = .ok (.iload_n 2, 1) := by decide +kernel
theorem dX8_load_101 : decode cX8_load 101 = .ok (.invokevirtual 87, 3) := by decide +kernel
theorem dX8_load_104 : decode cX8_load 104 = .ok (.ifCond .ne 6, 3) := by decide +kernel
theorem dX8_load_107 : decode cX8_load 107 = .ok (.iinc 1 1, 3) := by decide +kernel
theorem dX8_load_110 : decode cX8_load 110 = .ok (.iinc 2 1, 3) := by decide +kernel
theorem dX8_load_113 : decode cX8_load 113 = .ok (.goto (-36), 3) := by decide +kernel
theorem dX8_load_116 : decode cX8_load 116 = .ok (.iload_n 1, 1) := by decide +kernel
theorem dX8_load_117 : decode cX8_load 117 = .ok (.ireturn, 1) := by decide +kernel
theorem dX8_obeyCommand_0 : decode cX8_obeyCommand 0 = .ok (.aload_n 0, 1) := by decide +kernel
theorem dX8_obeyCommand_1 : decode cX8_obeyCommand 1 = .ok (.getfield 33, 3) := by decide +kernel
theorem dX8_obeyCommand_4 : decode cX8_obeyCommand 4 = .ok (.iload_n 1, 1) := by decide +kernel
theorem dX8_obeyCommand_5 : decode cX8_obeyCommand 5 = .ok (.invokevirtual 90, 3) := by decide +kernel
theorem dX8_obeyCommand_8 : decode cX8_obeyCommand 8 = .ok (.lookupswitch 144 #[(98, 135), (99, 52), (103, 108), (112, 126), (119, 90)], 52) := by decide +kernel
theorem dX8_obeyCommand_60 : decode cX8_obeyCommand 60 = .ok (.aload_n 0, 1) := by decide +kernel
theorem dX8_obeyCommand_61 : decode cX8_obeyCommand 61 = .ok (.getfield 12, 3) := by decide +kernel
theorem dX8_obeyCommand_64 : decode cX8_obeyCommand 64 = .ok (.aload_n 0, 1) := by decide +kernel
theorem dX8_obeyCommand_65 : decode cX8_obeyCommand 65 = .ok (.getfield 33, 3) := by decide +kernel
theorem dX8_obeyCommand_68 : decode cX8_obeyCommand 68 = .ok (.iload_n 1, 1) := by decide +kernel
theorem dX8_obeyCommand_69 : decode cX8_obeyCommand 69 = .ok (.iconst 1, 1) := by decide +kernel
theorem dX8_obeyCommand_70 : decode cX8_obeyCommand 70 = .ok (.iadd, 1) := by decide +kernel
theorem dX8_obeyCommand_71 : decode cX8_obeyCommand 71 = .ok (.invokevirtual 94, 3) := by decide +kernel
theorem dX8_obeyCommand_74 : decode cX8_obeyCommand 74 = .ok (.aload_n 0, 1) := by decide +kernel
theorem dX8_obeyCommand_75 : decode cX8_obeyCommand 75 = .ok (.getfield 33, 3) := by decide +kernel
theorem dX8_obeyCommand_78 : decode cX8_obeyCommand 78 = .ok (.iload_n 1, 1) := by decide +kernel
theorem dX8_obeyCommand_79 : decode cX8_obeyCommand 79 = .ok (.iconst 2, 1) := by decide +kernel
theorem dX8_obeyCommand_80 : decode cX8_obeyCommand 80 = .ok (.iadd, 1) := by decide +kernel
theorem dX8_obeyCommand_81 : decode cX8_obeyCommand 81 = .ok (.invokevirtual 94, 3) := by decide +kernel
theorem dX8_obeyCommand_84 : decode cX8_obeyCommand 84 = .ok (.aload_n 0, 1) := by decide +kernel
theorem dX8_obeyCommand_85 : decode cX8_obeyCommand 85 = .ok (.getfield 33, 3) := by decide +kernel
theorem dX8_obeyCommand_88 : decode cX8_obeyCommand 88 = .ok (.iload_n 1, 1) := by decide +kernel
theorem dX8_obeyCommand_89 : decode cX8_obeyCommand 89 = .ok (.iconst 3, 1) := by decide +kernel
theorem dX8_obeyCommand_90 : decode cX8_obeyCommand 90 = .ok (.iadd, 1) := by decide +kernel
theorem dX8_obeyCommand_91 : decode cX8_obeyCommand 91 = .ok (.invokevirtual 94, 3) := by decide +kernel
theorem dX8_obeyCommand_94 : decode cX8_obeyCommand 94 = .ok (.invokevirtual 97, 3) := by decide +kernel
theorem dX8_obeyCommand_97 : decode cX8_obeyCommand 97 = .ok (.ireturn, 1) := by decide +kernel
theorem dX8_obeyCommand_98 : decode cX8_obeyCommand 98 = .ok (.aload_n 0, 1) := by decide +kernel
theorem dX8_obeyCommand_99 : decode cX8_obeyCommand 99 = .ok (.getfield 12, 3) := by decide +kernel
theorem dX8_obeyCommand_102 : decode cX8_obeyCommand 102 = .ok (.aload_n 0, 1) := by decide +kernel
theorem dX8_obeyCommand_103 : decode cX8_obeyCommand 103 = .ok (.getfield 33, 3) := by decide +kernel
theorem dX8_obeyCommand_106 : decode cX8_obeyCommand 106 = .ok (.iload_n 1, 1) := by decide +kernel
theorem dX8_obeyCommand_107 : decode cX8_obeyCommand 107 = .ok (.iconst 1, 1) := by decide +kernel
theorem dX8_obeyCommand_108 : decode cX8_obeyCommand 108 = .ok (.iadd, 1) := by decide +kernel
theorem dX8_obeyCommand_109 : decode cX8_obeyCommand 109 = .ok (.invokevirtual 94, 3) := by decide +kernel
theorem dX8_obeyCommand_112 : decode cX8_obeyCommand 112 = .ok (.invokevirtual 101, 3) := by decide +kernel
theorem dX8_obeyCommand_115 : decode cX8_obeyCommand 115 = .ok (.ireturn, 1) := by decide +kernel
theorem dX8_obeyCommand_116 : decode cX8_obeyCommand 116 = .ok (.aload_n 0, 1) := by decide +kernel
theorem dX8_obeyCommand_117 : decode cX8_obeyCommand 117 = .ok (.getfield 12, 3) := by decide +kernel
theorem dX8_obeyCommand_120 : decode cX8_obeyCommand 120 = .ok (.aload_n 0, 1) := by decide +kernel
theorem dX8_obeyCommand_121 : decode cX8_obeyCommand 121 = .ok (.getfield 33, 3) := by decide +kernel
theorem dX8_obeyCommand_124 : decode cX8_obeyCommand 124 = .ok (.iload_n 1, 1) := by decide +kernel
theorem dX8_obeyCommand_125 : decode cX8_obeyCommand 125 = .ok (.iconst 1, 1) := by decide +kernel
theorem dX8_obeyCommand_126 : decode cX8_obeyCommand 126 = .ok (.iadd, 1) := by decide +kernel
theorem dX8_obeyCommand_127 : decode cX8_obeyCommand 127 = .ok (.invokevirtual 94, 3) := by decide +kernel
theorem dX8_obeyCommand_130 : decode cX8_obeyCommand 130 = .ok (.invokevirtual 104, 3) := by decide +kernel
theorem dX8_obeyCommand_133 : decode cX8_obeyCommand 133 = .ok (.ireturn, 1) := by decide +kernel
theorem dX8_obeyCommand_134 : decode cX8_obeyCommand 134 = .ok (.aload_n 0, 1) := by decide +kernel
theorem dX8_obeyCommand_135 : decode cX8_obeyCommand 135 = .ok (.getfield 12, 3) := by decide +kernel
theorem dX8_obeyCommand_138 : decode cX8_obeyCommand 138 = .ok (.invokevirtual 107, 3) := by decide +kernel
theorem dX8_obeyCommand_141 : decode cX8_obeyCommand 141 = .ok (.iconst 1, 1) := by decide +kernel
theorem dX8_obeyCommand_142 : decode cX8_obeyCommand 142 = .ok (.ireturn, 1) := by decide +kernel
theorem dX8_obeyCommand_143 : decode cX8_obeyCommand 143 = .ok (.aload_n 0, 1) := by decide +kernel
theorem dX8_obeyCommand_144 : decode cX8_obeyCommand 144 = .ok (.aload_n 0, 1) := by decide +kernel
theorem dX8_obeyCommand_145 : decode cX8_obeyCommand 145 = .ok (.getfield 12, 3) := by decide +kernel
theorem dX8_obeyCommand_148 : decode cX8_obeyCommand 148 = .ok (.invokevirtual 110, 3) := by decide +kernel
theorem dX8_obeyCommand_151 : decode cX8_obeyCommand 151 = .ok (.ireturn, 1) := by decide +kernel
theorem dX8_obeyCommand_152 : decode cX8_obeyCommand 152 = .ok (.iconst 0, 1) := by decide +kernel
theorem dX8_obeyCommand_153 : decode cX8_obeyCommand 153 = .ok (.ireturn, 1) := by decide +kernel
theorem dX8_about_0 : decode cX8_about 0 = .ok (.iload_n 1, 1) := by decide +kernel
theorem dX8_about_1 : decode cX8_about 1 = .ok (.tableswitch 162 0 8 #[51, 59, 70, 92, 100, 108, 116, 132, 140], 51) := by decide +kernel
theorem dX8_about_52 : decode cX8_about 52 = .ok (.aload_n 0, 1) := by decide +kernel
theorem dX8_about_53 : decode cX8_about 53 = .ok (.getfield 12, 3) := by decide +kernel
theorem dX8_about_56 : decode cX8_about 56 = .ok (.getfield 114, 3) := by decide +kernel
theorem dX8_about_59 : decode cX8_about 59 = .ok (.ireturn, 1) := by decide +kernel
theorem dX8_about_60 : decode cX8_about 60 = .ok (.aload_n 0, 1) := by decide +kernel
theorem dX8_about_61 : decode cX8_about 61 = .ok (.getfield 12, 3) := by decide +kernel
theorem dX8_about_64 : decode cX8_about 64 = .ok (.getfield 116, 3) := by decide +kernel
theorem dX8_about_67 : decode cX8_about 67 = .ok (.invokestatic 118, 3) := by decide +kernel
theorem dX8_about_70 : decode cX8_about 70 = .ok (.ireturn, 1) := by decide +kernel
theorem dX8_about_71 : decode cX8_about 71 = .ok (.aload_n 0, 1) := by decide +kernel
theorem dX8_about_72 : decode cX8_about 72 = .ok (.getfield 12, 3) := by decide +kernel
theorem dX8_about_75 : decode cX8_about 75 = .ok (.getfield 114, 3) := by decide +kernel
theorem dX8_about_78 : decode cX8_about 78 = .ok (.aload_n 0, 1) := by decide +kernel
theorem dX8_about_79 : decode cX8_about 79 = .ok (.getfield 12, 3) := by decide +kernel
theorem dX8_about_82 : decode cX8_about 82 = .ok (.getfield 116, 3) := by decide +kernel
theorem dX8_about_85 : decode cX8_about 85 = .ok (.invokestatic 123, 3) := by decide +kernel
theorem dX8_about_88 : decode cX8_about 88 = .ok (.invokestatic 126, 3) := by decide +kernel
theorem dX8_about_91 : decode cX8_about 91 = .ok (.isub, 1) := by decide +kernel
theorem dX8_about_92 : decode cX8_about 92 = .ok (.ireturn, 1) := by decide +kernel
theorem dX8_about_93 : decode cX8_about 93 = .ok (.aload_n 0, 1) := by decide +kernel
theorem dX8_about_94 : decode cX8_about 94 = .ok (.getfield 12, 3) := by decide +kernel
theorem dX8_about_97 : decode cX8_about 97 = .ok (.getfield 131, 3) := by decide +kernel
theorem dX8_about_100 : decode cX8_about 100 = .ok (.ireturn, 1) := by decide +kernel
theorem dX8_about_101 : decode cX8_about 101 = .ok (.aload_n 0, 1) := by decide +kernel
theorem dX8_about_102 : decode cX8_about 102 = .ok (.getfield 12, 3) := by decide +kernel
theorem dX8_about_105 : decode cX8_about 105 = .ok (.getfield 134, 3) := by decide +kernel
theorem dX8_about_108 : decode cX8_about 108 = .ok (.ireturn, 1) := by decide +kernel
theorem dX8_about_109 : decode cX8_about 109 = .ok (.aload_n 0, 1) := by decide +kernel
theorem dX8_about_110 : decode cX8_about 110 = .ok (.getfield 12, 3) := by decide +kernel
theorem dX8_about_113 : decode cX8_about 113 = .ok (.invokevirtual 137, 3) := by decide +kernel
theorem dX8_about_116 : decode cX8_about 116 = .ok (.ireturn, 1) := by decide +kernel
theorem dX8_about_117 : decode cX8_about 117 = .ok (.aload_n 0, 1) := by decide +kernel
theorem dX8_about_118 : decode cX8_about 118 = .ok (.getfield 12, 3) := by decide +kernel
theorem dX8_about_121 : decode cX8_about 121 = .ok (.invokevirtual 140, 3) := by decide +kernel
theorem dX8_about_124 : decode cX8_about 124 = .ok (.ifCond .eq 7, 3) := by decide +kernel
theorem dX8_about_127 : decode cX8_about 127 = .ok (.iconst 1, 1) := by decide +kernel
theorem dX8_about_128 : decode cX8_about 128 = .ok (.goto 4, 3) := by decide +kernel
theorem dX8_about_131 : decode cX8_about 131 = .ok (.iconst 0, 1) := by decide +kernel
theorem dX8_about_132 : decode cX8_about 132 = .ok (.ireturn, 1) := by decide +kernel
theorem dX8_about_133 : decode cX8_about 133 = .ok (.aload_n 0, 1) := by decide +kernel
theorem dX8_about_134 : decode cX8_about 134 = .ok (.getfield 12, 3) := by decide +kernel
theorem dX8_about_137 : decode cX8_about 137 = .ok (.getfield 116, 3) := by decide +kernel
theorem dX8_about_140 : decode cX8_about 140 = .ok (.ireturn, 1) := by decide +kernel
theorem dX8_about_141 : decode cX8_about 141 = .ok (.aload_n 0, 1) := by decide +kernel
theorem dX8_about_142 : decode cX8_about 142 = .ok (.getfield 40, 3) := by decide +kernel
theorem dX8_about_145 : decode cX8_about 145 = .ok (.aload_n 0, 1) := by decide +kernel
theorem dX8_about_146 : decode cX8_about 146 = .ok (.getfield 12, 3) := by decide +kernel
theorem dX8_about_149 : decode cX8_about 149 = .ok (.invokevirtual 144, 3) := by decide +kernel
theorem dX8_about_152 : decode cX8_about 152 = .ok (.aload_n 0, 1) := by decide +kernel
theorem dX8_about_153 : decode cX8_about 153 = .ok (.getfield 12, 3) := by decide +kernel
theorem dX8_about_156 : decode cX8_about 156 = .ok (.getfield 116, 3) := by decide +kernel
theorem dX8_about_159 : decode cX8_about 159 = .ok (.invokevirtual 148, 3) := by decide +kernel
theorem dX8_about_162 : decode cX8_about 162 = .ok (.ireturn, 1) := by decide +kernel
theorem dX8_about_163 : decode cX8_about 163 = .ok (.new 44, 3) := by decide +kernel
theorem dX8_about_166 : decode cX8_about 166 = .ok (.dup, 1) := by decide +kernel
theorem dX8_about_167 : decode cX8_about 167 = .ok (.ldc 153, 2) := by decide +kernel
theorem dX8_about_169 : decode cX8_about 169 = .ok (.invokespecial 48, 3) := by decide +kernel
theorem dX8_about_172 : decode cX8_about 172 = .ok (.athrow, 1) := by decide +kernel
theorem dX8_leaves_0 : decode cX8_leaves 0 = .ok (.aload_n 0, 1) := by decide +kernel
theorem dX8_leaves_1 : decode cX8_leaves 1 = .ok (.iload_n 1, 1) := by decide +kernel
theorem dX8_leaves_2 : decode cX8_leaves 2 = .ok (.invokevirtual 155, 3) := by decide +kernel
theorem dX8_leaves_5 : decode cX8_leaves 5 = .ok (.aload_n 0, 1) := by decide +kernel
theorem dX8_leaves_6 : decode cX8_leaves 6 = .ok (.getfield 12, 3) := by decide +kernel
theorem dX8_leaves_9 : decode cX8_leaves 9 = .ok (.getfield 116, 3) := by decide +kernel
theorem dX8_leaves_12 : decode cX8_leaves 12 = .ok (.iload_n 1, 1) := by decide +kernel
theorem dX8_leaves_13 : decode cX8_leaves 13 = .ok (.invokestatic 159, 3) := by decide +kernel
theorem dX8_leaves_16 : decode cX8_leaves 16 = .ok (.ireturn, 1) := by decide +kernel
theorem dX8_gardener_0 : decode cX8_gardener 0 = .ok (.iload_n 1, 1) := by decide +kernel
theorem dX8_gardener_1 : decode cX8_gardener 1 = .ok (.invokestatic 163, 3) := by decide +kernel
theorem dX8_gardener_4 : decode cX8_gardener 4 = .ok (.ifCond .ne 13, 3) := by decide +kernel
theorem dX8_gardener_7 : decode cX8_gardener 7 = .ok (.new 166, 3) := by decide +kernel
theorem dX8_gardener_10 : decode cX8_gardener 10 = .ok (.dup, 1) := by decide +kernel
theorem dX8_gardener_11 : decode cX8_gardener 11 = .ok (.ldc 168, 2) := by decide +kernel
theorem dX8_gardener_13 : decode cX8_gardener 13 = .ok (.invokespecial 170, 3) := by decide +kernel
theorem dX8_gardener_16 : decode cX8_gardener 16 = .ok (.athrow, 1) := by decide +kernel
theorem dX8_gardener_17 : decode cX8_gardener 17 = .ok (.iload_n 2, 1) := by decide +kernel
theorem dX8_gardener_18 : decode cX8_gardener 18 = .ok (.tableswitch 62 0 2 #[26, 38, 50], 26) := by decide +kernel
theorem dX8_gardener_44 : decode cX8_gardener 44 = .ok (.aload_n 0, 1) := by decide +kernel
theorem dX8_gardener_45 : decode cX8_gardener 45 = .ok (.getfield 12, 3) := by decide +kernel
theorem dX8_gardener_48 : decode cX8_gardener 48 = .ok (.iload_n 1, 1) := by decide +kernel
theorem dX8_gardener_49 : decode cX8_gardener 49 = .ok (.invokevirtual 171, 3) := by decide +kernel
theorem dX8_gardener_52 : decode cX8_gardener 52 = .ok (.getfield 175, 3) := by decide +kernel
theorem dX8_gardener_55 : decode cX8_gardener 55 = .ok (.ireturn, 1) := by decide +kernel
theorem dX8_gardener_56 : decode cX8_gardener 56 = .ok (.aload_n 0, 1) := by decide +kernel
theorem dX8_gardener_57 : decode cX8_gardener 57 = .ok (.getfield 12, 3) := by decide +kernel
theorem dX8_gardener_60 : decode cX8_gardener 60 = .ok (.iload_n 1, 1) := by decide +kernel
theorem dX8_gardener_61 : decode cX8_gardener 61 = .ok (.invokevirtual 171, 3) := by decide +kernel
theorem dX8_gardener_64 : decode cX8_gardener 64 = .ok (.getfield 180, 3) := by decide +kernel
theorem dX8_gardener_67 : decode cX8_gardener 67 = .ok (.ireturn, 1) := by decide +kernel
theorem dX8_gardener_68 : decode cX8_gardener 68 = .ok (.aload_n 0, 1) := by decide +kernel
theorem dX8_gardener_69 : decode cX8_gardener 69 = .ok (.getfield 12, 3) := by decide +kernel
theorem dX8_gardener_72 : decode cX8_gardener 72 = .ok (.iload_n 1, 1) := by decide +kernel
theorem dX8_gardener_73 : decode cX8_gardener 73 = .ok (.invokevirtual 171, 3) := by decide +kernel
theorem dX8_gardener_76 : decode cX8_gardener 76 = .ok (.getfield 183, 3) := by decide +kernel
theorem dX8_gardener_79 : decode cX8_gardener 79 = .ok (.ireturn, 1) := by decide +kernel
theorem dX8_gardener_80 : decode cX8_gardener 80 = .ok (.new 44, 3) := by decide +kernel
theorem dX8_gardener_83 : decode cX8_gardener 83 = .ok (.dup, 1) := by decide +kernel
theorem dX8_gardener_84 : decode cX8_gardener 84 = .ok (.ldc 153, 2) := by decide +kernel
theorem dX8_gardener_86 : decode cX8_gardener 86 = .ok (.invokespecial 48, 3) := by decide +kernel
theorem dX8_gardener_89 : decode cX8_gardener 89 = .ok (.athrow, 1) := by decide +kernel
theorem dX8_setting_0 : decode cX8_setting 0 = .ok (.iload_n 1, 1) := by decide +kernel
theorem dX8_setting_1 : decode cX8_setting 1 = .ok (.invokestatic 186, 3) := by decide +kernel
theorem dX8_setting_4 : decode cX8_setting 4 = .ok (.iload_n 1, 1) := by decide +kernel
theorem dX8_setting_5 : decode cX8_setting 5 = .ok (.ifCond .ne 13, 3) := by decide +kernel
theorem dX8_setting_8 : decode cX8_setting 8 = .ok (.aload_n 0, 1) := by decide +kernel
theorem dX8_setting_9 : decode cX8_setting 9 = .ok (.getfield 12, 3) := by decide +kernel
theorem dX8_setting_12 : decode cX8_setting 12 = .ok (.getfield 189, 3) := by decide +kernel
theorem dX8_setting_15 : decode cX8_setting 15 = .ok (.goto 10, 3) := by decide +kernel
theorem dX8_setting_18 : decode cX8_setting 18 = .ok (.aload_n 0, 1) := by decide +kernel
theorem dX8_setting_19 : decode cX8_setting 19 = .ok (.getfield 12, 3) := by decide +kernel
theorem dX8_setting_22 : decode cX8_setting 22 = .ok (.getfield 192, 3) := by decide +kernel
theorem dX8_setting_25 : decode cX8_setting 25 = .ok (.ireturn, 1) := by decide +kernel
theorem dX8_plant_0 : decode cX8_plant 0 = .ok (.iload_n 1, 1) := by decide +kernel
theorem dX8_plant_1 : decode cX8_plant 1 = .ok (.iconst 2, 1) := by decide +kernel
theorem dX8_plant_2 : decode cX8_plant 2 = .ok (.if_icmp .lt 9, 3) := by decide +kernel
theorem dX8_plant_5 : decode cX8_plant 5 = .ok (.iload_n 1, 1) := by decide +kernel
theorem dX8_plant_6 : decode cX8_plant 6 = .ok (.bipush 6, 2) := by decide +kernel
theorem dX8_plant_8 : decode cX8_plant 8 = .ok (.if_icmp .le 13, 3) := by decide +kernel
theorem dX8_plant_11 : decode cX8_plant 11 = .ok (.new 44, 3) := by decide +kernel
theorem dX8_plant_14 : decode cX8_plant 14 = .ok (.dup, 1) := by decide +kernel
theorem dX8_plant_15 : decode cX8_plant 15 = .ok (.ldc 195, 2) := by decide +kernel
theorem dX8_plant_17 : decode cX8_plant 17 = .ok (.invokespecial 48, 3) := by decide +kernel
theorem dX8_plant_20 : decode cX8_plant 20 = .ok (.athrow, 1) := by decide +kernel
theorem dX8_plant_21 : decode cX8_plant 21 = .ok (.iload_n 2, 1) := by decide +kernel
theorem dX8_plant_22 : decode cX8_plant 22 = .ok (.ifCond .lt 11, 3) := by decide +kernel
theorem dX8_plant_25 : decode cX8_plant 25 = .ok (.iload_n 2, 1) := by decide +kernel
theorem dX8_plant_26 : decode cX8_plant 26 = .ok (.iload_n 1, 1) := by decide +kernel
theorem dX8_plant_27 : decode cX8_plant 27 = .ok (.invokestatic 197, 3) := by decide +kernel
theorem dX8_plant_30 : decode cX8_plant 30 = .ok (.if_icmp .lt 13, 3) := by decide +kernel
theorem dX8_plant_33 : decode cX8_plant 33 = .ok (.new 44, 3) := by decide +kernel
theorem dX8_plant_36 : decode cX8_plant 36 = .ok (.dup, 1) := by decide +kernel
theorem dX8_plant_37 : decode cX8_plant 37 = .ok (.ldc 200, 2) := by decide +kernel
theorem dX8_plant_39 : decode cX8_plant 39 = .ok (.invokespecial 48, 3) := by decide +kernel
theorem dX8_plant_42 : decode cX8_plant 42 = .ok (.athrow, 1) := by decide +kernel
theorem dX8_plant_43 : decode cX8_plant 43 = .ok (.aload_n 0, 1) := by decide +kernel
theorem dX8_plant_44 : decode cX8_plant 44 = .ok (.getfield 22, 3) := by decide +kernel
theorem dX8_plant_47 : decode cX8_plant 47 = .ok (.aload_n 0, 1) := by decide +kernel
theorem dX8_plant_48 : decode cX8_plant 48 = .ok (.getfield 12, 3) := by decide +kernel
theorem dX8_plant_51 : decode cX8_plant 51 = .ok (.invokevirtual 202, 3) := by decide +kernel
theorem dX8_plant_54 : decode cX8_plant 54 = .ok (.aload_n 0, 1) := by decide +kernel
theorem dX8_plant_55 : decode cX8_plant 55 = .ok (.getfield 12, 3) := by decide +kernel
theorem dX8_plant_58 : decode cX8_plant 58 = .ok (.iload_n 1, 1) := by decide +kernel
theorem dX8_plant_59 : decode cX8_plant 59 = .ok (.iload_n 2, 1) := by decide +kernel
theorem dX8_plant_60 : decode cX8_plant 60 = .ok (.invokevirtual 206, 3) := by decide +kernel
theorem dX8_plant_63 : decode cX8_plant 63 = .ok (.iload_n 2, 1) := by decide +kernel
theorem dX8_plant_64 : decode cX8_plant 64 = .ok (.invokestatic 118, 3) := by decide +kernel
theorem dX8_plant_67 : decode cX8_plant 67 = .ok (.ireturn, 1) := by decide +kernel
theorem dX8_clip_0 : decode cX8_clip 0 = .ok (.aload_n 0, 1) := by decide +kernel
theorem dX8_clip_1 : decode cX8_clip 1 = .ok (.iload_n 1, 1) := by decide +kernel
theorem dX8_clip_2 : decode cX8_clip 2 = .ok (.iload_n 2, 1) := by decide +kernel
theorem dX8_clip_3 : decode cX8_clip 3 = .ok (.iload_n 3, 1) := by decide +kernel
theorem dX8_clip_4 : decode cX8_clip 4 = .ok (.invokevirtual 209, 3) := by decide +kernel
theorem dX8_clip_7 : decode cX8_clip 7 = .ok (.aload_n 0, 1) := by decide +kernel
theorem dX8_clip_8 : decode cX8_clip 8 = .ok (.getfield 12, 3) := by decide +kernel
theorem dX8_clip_11 : decode cX8_clip 11 = .ok (.getfield 116, 3) := by decide +kernel
theorem dX8_clip_14 : decode cX8_clip 14 = .ok (.iload_n 1, 1) := by decide +kernel
theorem dX8_clip_15 : decode cX8_clip 15 = .ok (.iload_n 2, 1) := by decide +kernel
theorem dX8_clip_16 : decode cX8_clip 16 = .ok (.invokestatic 213, 3) := by decide +kernel
theorem dX8_clip_19 : decode cX8_clip 19 = .ok (.ifCond .ne 13, 3) := by decide +kernel
theorem dX8_clip_22 : decode cX8_clip 22 = .ok (.new 55, 3) := by decide +kernel
theorem dX8_clip_25 : decode cX8_clip 25 = .ok (.dup, 1) := by decide +kernel
theorem dX8_clip_26 : decode cX8_clip 26 = .ok (.ldc 216, 2) := by decide +kernel
theorem dX8_clip_28 : decode cX8_clip 28 = .ok (.invokespecial 59, 3) := by decide +kernel
theorem dX8_clip_31 : decode cX8_clip 31 = .ok (.athrow, 1) := by decide +kernel
theorem dX8_clip_32 : decode cX8_clip 32 = .ok (.aload_n 0, 1) := by decide +kernel
theorem dX8_clip_33 : decode cX8_clip 33 = .ok (.getfield 22, 3) := by decide +kernel
theorem dX8_clip_36 : decode cX8_clip 36 = .ok (.aload_n 0, 1) := by decide +kernel
theorem dX8_clip_37 : decode cX8_clip 37 = .ok (.getfield 12, 3) := by decide +kernel
theorem dX8_clip_40 : decode cX8_clip 40 = .ok (.invokevirtual 202, 3) := by decide +kernel
theorem dX8_clip_43 : decode cX8_clip 43 = .ok (.aload_n 0, 1) := by decide +kernel
theorem dX8_clip_44 : decode cX8_clip 44 = .ok (.getfield 12, 3) := by decide +kernel
theorem dX8_clip_47 : decode cX8_clip 47 = .ok (.iload_n 1, 1) := by decide +kernel
theorem dX8_clip_48 : decode cX8_clip 48 = .ok (.iload_n 2, 1) := by decide +kernel
theorem dX8_clip_49 : decode cX8_clip 49 = .ok (.iload_n 3, 1) := by decide +kernel
theorem dX8_clip_50 : decode cX8_clip 50 = .ok (.invokestatic 218, 3) := by decide +kernel
theorem dX8_clip_53 : decode cX8_clip 53 = .ok (.invokevirtual 224, 3) := by decide +kernel
theorem dX8_clip_56 : decode cX8_clip 56 = .ok (.ireturn, 1) := by decide +kernel
theorem dX8_water_0 : decode cX8_water 0 = .ok (.aload_n 0, 1) := by decide +kernel
theorem dX8_water_1 : decode cX8_water 1 = .ok (.iload_n 1, 1) := by decide +kernel
theorem dX8_water_2 : decode cX8_water 2 = .ok (.invokevirtual 155, 3) := by decide +kernel
theorem dX8_water_5 : decode cX8_water 5 = .ok (.aload_n 0, 1) := by decide +kernel
theorem dX8_water_6 : decode cX8_water 6 = .ok (.getfield 12, 3) := by decide +kernel
theorem dX8_water_9 : decode cX8_water 9 = .ok (.getfield 116, 3) := by decide +kernel
theorem dX8_water_12 : decode cX8_water 12 = .ok (.iload_n 1, 1) := by decide +kernel
theorem dX8_water_13 : decode cX8_water 13 = .ok (.invokestatic 227, 3) := by decide +kernel
theorem dX8_water_16 : decode cX8_water 16 = .ok (.ifCond .eq 13, 3) := by decide +kernel
theorem dX8_water_19 : decode cX8_water 19 = .ok (.new 55, 3) := by decide +kernel
theorem dX8_water_22 : decode cX8_water 22 = .ok (.dup, 1) := by decide +kernel
theorem dX8_water_23 : decode cX8_water 23 = .ok (.ldc 231, 2) := by decide +kernel
theorem dX8_water_25 : decode cX8_water 25 = .ok (.invokespecial 59, 3) := by decide +kernel
theorem dX8_water_28 : decode cX8_water 28 = .ok (.athrow, 1) := by decide +kernel
theorem dX8_water_29 : decode cX8_water 29 = .ok (.aload_n 0, 1) := by decide +kernel
theorem dX8_water_30 : decode cX8_water 30 = .ok (.getfield 22, 3) := by decide +kernel
theorem dX8_water_33 : decode cX8_water 33 = .ok (.aload_n 0, 1) := by decide +kernel
theorem dX8_water_34 : decode cX8_water 34 = .ok (.getfield 12, 3) := by decide +kernel
theorem dX8_water_37 : decode cX8_water 37 = .ok (.invokevirtual 202, 3) := by decide +kernel
theorem dX8_water_40 : decode cX8_water 40 = .ok (.aload_n 0, 1) := by decide +kernel
theorem dX8_water_41 : decode cX8_water 41 = .ok (.getfield 12, 3) := by decide +kernel
theorem dX8_water_44 : decode cX8_water 44 = .ok (.aload_n 0, 1) := by decide +kernel
theorem dX8_water_45 : decode cX8_water 45 = .ok (.getfield 12, 3) := by decide +kernel
theorem dX8_water_48 : decode cX8_water 48 = .ok (.getfield 116, 3) := by decide +kernel
theorem dX8_water_51 : decode cX8_water 51 = .ok (.iload_n 1, 1) := by decide +kernel
theorem dX8_water_52 : decode cX8_water 52 = .ok (.invokestatic 233, 3) := by decide +kernel
theorem dX8_water_55 : decode cX8_water 55 = .ok (.putfield 116, 3) := by decide +kernel
theorem dX8_water_58 : decode cX8_water 58 = .ok (.aload_n 0, 1) := by decide +kernel
theorem dX8_water_59 : decode cX8_water 59 = .ok (.getfield 12, 3) := by decide +kernel
theorem dX8_water_62 : decode cX8_water 62 = .ok (.getfield 116, 3) := by decide +kernel
theorem dX8_water_65 : decode cX8_water 65 = .ok (.iload_n 1, 1) := by decide +kernel
theorem dX8_water_66 : decode cX8_water 66 = .ok (.invokestatic 159, 3) := by decide +kernel
theorem dX8_water_69 : decode cX8_water 69 = .ok (.ireturn, 1) := by decide +kernel
theorem dX8_wind_0 : decode cX8_wind 0 = .ok (.iload_n 1, 1) := by decide +kernel
theorem dX8_wind_1 : decode cX8_wind 1 = .ok (.invokestatic 236, 3) := by decide +kernel
theorem dX8_wind_4 : decode cX8_wind 4 = .ok (.ifCond .ne 13, 3) := by decide +kernel
theorem dX8_wind_7 : decode cX8_wind 7 = .ok (.new 44, 3) := by decide +kernel
theorem dX8_wind_10 : decode cX8_wind 10 = .ok (.dup, 1) := by decide +kernel
theorem dX8_wind_11 : decode cX8_wind 11 = .ok (.ldc 239, 2) := by decide +kernel
theorem dX8_wind_13 : decode cX8_wind 13 = .ok (.invokespecial 48, 3) := by decide +kernel
theorem dX8_wind_16 : decode cX8_wind 16 = .ok (.athrow, 1) := by decide +kernel
theorem dX8_wind_17 : decode cX8_wind 17 = .ok (.aload_n 0, 1) := by decide +kernel
theorem dX8_wind_18 : decode cX8_wind 18 = .ok (.getfield 12, 3) := by decide +kernel
theorem dX8_wind_21 : decode cX8_wind 21 = .ok (.getfield 131, 3) := by decide +kernel
theorem dX8_wind_24 : decode cX8_wind 24 = .ok (.istore_n 2, 1) := by decide +kernel
theorem dX8_wind_25 : decode cX8_wind 25 = .ok (.aload_n 0, 1) := by decide +kernel
theorem dX8_wind_26 : decode cX8_wind 26 = .ok (.getfield 22, 3) := by decide +kernel
theorem dX8_wind_29 : decode cX8_wind 29 = .ok (.aload_n 0, 1) := by decide +kernel
theorem dX8_wind_30 : decode cX8_wind 30 = .ok (.getfield 12, 3) := by decide +kernel
theorem dX8_wind_33 : decode cX8_wind 33 = .ok (.invokevirtual 202, 3) := by decide +kernel
theorem dX8_wind_36 : decode cX8_wind 36 = .ok (.aload_n 0, 1) := by decide +kernel
theorem dX8_wind_37 : decode cX8_wind 37 = .ok (.getfield 12, 3) := by decide +kernel
theorem dX8_wind_40 : decode cX8_wind 40 = .ok (.iload_n 1, 1) := by decide +kernel
theorem dX8_wind_41 : decode cX8_wind 41 = .ok (.putfield 131, 3) := by decide +kernel
theorem dX8_wind_44 : decode cX8_wind 44 = .ok (.iload_n 2, 1) := by decide +kernel
theorem dX8_wind_45 : decode cX8_wind 45 = .ok (.ireturn, 1) := by decide +kernel
theorem dX8_pass_0 : decode cX8_pass 0 = .ok (.aload_n 0, 1) := by decide +kernel
theorem dX8_pass_1 : decode cX8_pass 1 = .ok (.getfield 22, 3) := by decide +kernel
theorem dX8_pass_4 : decode cX8_pass 4 = .ok (.aload_n 0, 1) := by decide +kernel
theorem dX8_pass_5 : decode cX8_pass 5 = .ok (.getfield 12, 3) := by decide +kernel
theorem dX8_pass_8 : decode cX8_pass 8 = .ok (.invokevirtual 202, 3) := by decide +kernel
theorem dX8_pass_11 : decode cX8_pass 11 = .ok (.aload_n 0, 1) := by decide +kernel
theorem dX8_pass_12 : decode cX8_pass 12 = .ok (.getfield 12, 3) := by decide +kernel
theorem dX8_pass_15 : decode cX8_pass 15 = .ok (.invokevirtual 107, 3) := by decide +kernel
theorem dX8_pass_18 : decode cX8_pass 18 = .ok (.aload_n 0, 1) := by decide +kernel
theorem dX8_pass_19 : decode cX8_pass 19 = .ok (.getfield 12, 3) := by decide +kernel
theorem dX8_pass_22 : decode cX8_pass 22 = .ok (.getfield 134, 3) := by decide +kernel
theorem dX8_pass_25 : decode cX8_pass 25 = .ok (.ireturn, 1) := by decide +kernel
theorem dX8_set_0 : decode cX8_set 0 = .ok (.iload_n 1, 1) := by decide +kernel
theorem dX8_set_1 : decode cX8_set 1 = .ok (.invokestatic 186, 3) := by decide +kernel
theorem dX8_set_4 : decode cX8_set 4 = .ok (.iload_n 2, 1) := by decide +kernel
theorem dX8_set_5 : decode cX8_set 5 = .ok (.iconst 1, 1) := by decide +kernel
theorem dX8_set_6 : decode cX8_set 6 = .ok (.if_icmp .lt 17, 3) := by decide +kernel
theorem dX8_set_9 : decode cX8_set 9 = .ok (.iload_n 2, 1) := by decide +kernel
theorem dX8_set_10 : decode cX8_set 10 = .ok (.iload_n 1, 1) := by decide +kernel
theorem dX8_set_11 : decode cX8_set 11 = .ok (.ifCond .ne 8, 3) := by decide +kernel
theorem dX8_set_14 : decode cX8_set 14 = .ok (.bipush 9, 2) := by decide +kernel
theorem dX8_set_16 : decode cX8_set 16 = .ok (.goto 4, 3) := by decide +kernel
theorem dX8_set_19 : decode cX8_set 19 = .ok (.iconst 3, 1) := by decide +kernel
theorem dX8_set_20 : decode cX8_set 20 = .ok (.if_icmp .le 13, 3) := by decide +kernel
theorem dX8_set_23 : decode cX8_set 23 = .ok (.new 44, 3) := by decide +kernel
theorem dX8_set_26 : decode cX8_set 26 = .ok (.dup, 1) := by decide +kernel
theorem dX8_set_27 : decode cX8_set 27 = .ok (.ldc 241, 2) := by decide +kernel
theorem dX8_set_29 : decode cX8_set 29 = .ok (.invokespecial 48, 3) := by decide +kernel
theorem dX8_set_32 : decode cX8_set 32 = .ok (.athrow, 1) := by decide +kernel
theorem dX8_set_33 : decode cX8_set 33 = .ok (.iload_n 1, 1) := by decide +kernel
theorem dX8_set_34 : decode cX8_set 34 = .ok (.ifCond .ne 13, 3) := by decide +kernel
theorem dX8_set_37 : decode cX8_set 37 = .ok (.aload_n 0, 1) := by decide +kernel
theorem dX8_set_38 : decode cX8_set 38 = .ok (.getfield 12, 3) := by decide +kernel
theorem dX8_set_41 : decode cX8_set 41 = .ok (.getfield 189, 3) := by decide +kernel
theorem dX8_set_44 : decode cX8_set 44 = .ok (.goto 10, 3) := by decide +kernel
theorem dX8_set_47 : decode cX8_set 47 = .ok (.aload_n 0, 1) := by decide +kernel
theorem dX8_set_48 : decode cX8_set 48 = .ok (.getfield 12, 3) := by decide +kernel
theorem dX8_set_51 : decode cX8_set 51 = .ok (.getfield 192, 3) := by decide +kernel
theorem dX8_set_54 : decode cX8_set 54 = .ok (.istore_n 3, 1) := by decide +kernel
theorem dX8_set_55 : decode cX8_set 55 = .ok (.aload_n 0, 1) := by decide +kernel
theorem dX8_set_56 : decode cX8_set 56 = .ok (.getfield 22, 3) := by decide +kernel
theorem dX8_set_59 : decode cX8_set 59 = .ok (.aload_n 0, 1) := by decide +kernel
theorem dX8_set_60 : decode cX8_set 60 = .ok (.getfield 12, 3) := by decide +kernel
theorem dX8_set_63 : decode cX8_set 63 = .ok (.invokevirtual 202, 3) := by decide +kernel
theorem dX8_set_66 : decode cX8_set 66 = .ok (.iload_n 1, 1) := by decide +kernel
theorem dX8_set_67 : decode cX8_set 67 = .ok (.ifCond .ne 14, 3) := by decide +kernel
theorem dX8_set_70 : decode cX8_set 70 = .ok (.aload_n 0, 1) := by decide +kernel
theorem dX8_set_71 : decode cX8_set 71 = .ok (.getfield 12, 3) := by decide +kernel
theorem dX8_set_74 : decode cX8_set 74 = .ok (.iload_n 2, 1) := by decide +kernel
theorem dX8_set_75 : decode cX8_set 75 = .ok (.putfield 189, 3) := by decide +kernel
theorem dX8_set_78 : decode cX8_set 78 = .ok (.goto 11, 3) := by decide +kernel
theorem dX8_set_81 : decode cX8_set 81 = .ok (.aload_n 0, 1) := by decide +kernel
theorem dX8_set_82 : decode cX8_set 82 = .ok (.getfield 12, 3) := by decide +kernel
theorem dX8_set_85 : decode cX8_set 85 = .ok (.iload_n 2, 1) := by decide +kernel
theorem dX8_set_86 : decode cX8_set 86 = .ok (.putfield 192, 3) := by decide +kernel
theorem dX8_set_89 : decode cX8_set 89 = .ok (.iload_n 3, 1) := by decide +kernel
theorem dX8_set_90 : decode cX8_set 90 = .ok (.ireturn, 1) := by decide +kernel
theorem dX8_undo_0 : decode cX8_undo 0 = .ok (.aload_n 0, 1) := by decide +kernel
theorem dX8_undo_1 : decode cX8_undo 1 = .ok (.getfield 22, 3) := by decide +kernel
theorem dX8_undo_4 : decode cX8_undo 4 = .ok (.aload_n 0, 1) := by decide +kernel
theorem dX8_undo_5 : decode cX8_undo 5 = .ok (.getfield 12, 3) := by decide +kernel
theorem dX8_undo_8 : decode cX8_undo 8 = .ok (.invokevirtual 243, 3) := by decide +kernel
theorem dX8_undo_11 : decode cX8_undo 11 = .ok (.ifCond .ne 13, 3) := by decide +kernel
theorem dX8_undo_14 : decode cX8_undo 14 = .ok (.new 55, 3) := by decide +kernel
theorem dX8_undo_17 : decode cX8_undo 17 = .ok (.dup, 1) := by decide +kernel
theorem dX8_undo_18 : decode cX8_undo 18 = .ok (.ldc 246, 2) := by decide +kernel
theorem dX8_undo_20 : decode cX8_undo 20 = .ok (.invokespecial 59, 3) := by decide +kernel
theorem dX8_undo_23 : decode cX8_undo 23 = .ok (.athrow, 1) := by decide +kernel
theorem dX8_undo_24 : decode cX8_undo 24 = .ok (.aload_n 0, 1) := by decide +kernel
theorem dX8_undo_25 : decode cX8_undo 25 = .ok (.getfield 22, 3) := by decide +kernel
theorem dX8_undo_28 : decode cX8_undo 28 = .ok (.getfield 248, 3) := by decide +kernel
theorem dX8_undo_31 : decode cX8_undo 31 = .ok (.ireturn, 1) := by decide +kernel
theorem dX8_ifClipped_0 : decode cX8_ifClipped 0 = .ok (.aload_n 0, 1) := by decide +kernel
theorem dX8_ifClipped_1 : decode cX8_ifClipped 1 = .ok (.iload_n 1, 1) := by decide +kernel
theorem dX8_ifClipped_2 : decode cX8_ifClipped 2 = .ok (.iload_n 2, 1) := by decide +kernel
theorem dX8_ifClipped_3 : decode cX8_ifClipped 3 = .ok (.iload_n 3, 1) := by decide +kernel
theorem dX8_ifClipped_4 : decode cX8_ifClipped 4 = .ok (.invokevirtual 209, 3) := by decide +kernel
theorem dX8_ifClipped_7 : decode cX8_ifClipped 7 = .ok (.iload 4, 2) := by decide +kernel
theorem dX8_ifClipped_9 : decode cX8_ifClipped 9 = .ok (.ifCond .lt 9, 3) := by decide +kernel
theorem dX8_ifClipped_12 : decode cX8_ifClipped 12 = .ok (.iload 4, 2) := by decide +kernel
theorem dX8_ifClipped_14 : decode cX8_ifClipped 14 = .ok (.iconst 3, 1) := by decide +kernel
theorem dX8_ifClipped_15 : decode cX8_ifClipped 15 = .ok (.if_icmp .le 13, 3) := by decide +kernel
theorem dX8_ifClipped_18 : decode cX8_ifClipped 18 = .ok (.new 44, 3) := by decide +kernel
theorem dX8_ifClipped_21 : decode cX8_ifClipped 21 = .ok (.dup, 1) := by decide +kernel
theorem dX8_ifClipped_22 : decode cX8_ifClipped 22 = .ok (.ldc 153, 2) := by decide +kernel
theorem dX8_ifClipped_24 : decode cX8_ifClipped 24 = .ok (.invokespecial 48, 3) := by decide +kernel
theorem dX8_ifClipped_27 : decode cX8_ifClipped 27 = .ok (.athrow, 1) := by decide +kernel
theorem dX8_ifClipped_28 : decode cX8_ifClipped 28 = .ok (.aload_n 0, 1) := by decide +kernel
theorem dX8_ifClipped_29 : decode cX8_ifClipped 29 = .ok (.getfield 12, 3) := by decide +kernel
theorem dX8_ifClipped_32 : decode cX8_ifClipped 32 = .ok (.getfield 116, 3) := by decide +kernel
theorem dX8_ifClipped_35 : decode cX8_ifClipped 35 = .ok (.iload_n 1, 1) := by decide +kernel
theorem dX8_ifClipped_36 : decode cX8_ifClipped 36 = .ok (.iload_n 2, 1) := by decide +kernel
theorem dX8_ifClipped_37 : decode cX8_ifClipped 37 = .ok (.invokestatic 213, 3) := by decide +kernel
theorem dX8_ifClipped_40 : decode cX8_ifClipped 40 = .ok (.ifCond .ne 5, 3) := by decide +kernel
theorem dX8_ifClipped_43 : decode cX8_ifClipped 43 = .ok (.iconst (-1), 1) := by decide +kernel
theorem dX8_ifClipped_44 : decode cX8_ifClipped 44 = .ok (.ireturn, 1) := by decide +kernel
theorem dX8_ifClipped_45 : decode cX8_ifClipped 45 = .ok (.aload_n 0, 1) := by decide +kernel
theorem dX8_ifClipped_46 : decode cX8_ifClipped 46 = .ok (.getfield 12, 3) := by decide +kernel
theorem dX8_ifClipped_49 : decode cX8_ifClipped 49 = .ok (.getfield 116, 3) := by decide +kernel
theorem dX8_ifClipped_52 : decode cX8_ifClipped 52 = .ok (.iload_n 1, 1) := by decide +kernel
theorem dX8_ifClipped_53 : decode cX8_ifClipped 53 = .ok (.iload_n 2, 1) := by decide +kernel
theorem dX8_ifClipped_54 : decode cX8_ifClipped 54 = .ok (.iload_n 3, 1) := by decide +kernel
theorem dX8_ifClipped_55 : decode cX8_ifClipped 55 = .ok (.invokestatic 218, 3) := by decide +kernel
theorem dX8_ifClipped_58 : decode cX8_ifClipped 58 = .ok (.invokestatic 251, 3) := by decide +kernel
theorem dX8_ifClipped_61 : decode cX8_ifClipped 61 = .ok (.istore 5, 2) := by decide +kernel
theorem dX8_ifClipped_63 : decode cX8_ifClipped 63 = .ok (.iload 5, 2) := by decide +kernel
theorem dX8_ifClipped_65 : decode cX8_ifClipped 65 = .ok (.aload_n 0, 1) := by decide +kernel
theorem dX8_ifClipped_66 : decode cX8_ifClipped 66 = .ok (.getfield 12, 3) := by decide +kernel
theorem dX8_ifClipped_69 : decode cX8_ifClipped 69 = .ok (.getfield 114, 3) := by decide +kernel
theorem dX8_ifClipped_72 : decode cX8_ifClipped 72 = .ok (.aload_n 0, 1) := by decide +kernel
theorem dX8_ifClipped_73 : decode cX8_ifClipped 73 = .ok (.getfield 12, 3) := by decide +kernel
theorem dX8_ifClipped_76 : decode cX8_ifClipped 76 = .ok (.getfield 131, 3) := by decide +kernel
theorem dX8_ifClipped_79 : decode cX8_ifClipped 79 = .ok (.invokestatic 254, 3) := by decide +kernel
theorem dX8_ifClipped_82 : decode cX8_ifClipped 82 = .ok (.istore 6, 2) := by decide +kernel
theorem dX8_ifClipped_84 : decode cX8_ifClipped 84 = .ok (.iload 4, 2) := by decide +kernel
theorem dX8_ifClipped_86 : decode cX8_ifClipped 86 = .ok (.tableswitch 64 0 2 #[26, 47, 50], 26) := by decide +kernel
theorem dX8_ifClipped_112 : decode cX8_ifClipped 112 = .ok (.aload_n 0, 1) := by decide +kernel
theorem dX8_ifClipped_113 : decode cX8_ifClipped 113 = .ok (.getfield 12, 3) := by decide +kernel
theorem dX8_ifClipped_116 : decode cX8_ifClipped 116 = .ok (.getfield 189, 3) := by decide +kernel
theorem dX8_ifClipped_119 : decode cX8_ifClipped 119 = .ok (.aload_n 0, 1) := by decide +kernel
theorem dX8_ifClipped_120 : decode cX8_ifClipped 120 = .ok (.getfield 12, 3) := by decide +kernel
theorem dX8_ifClipped_123 : decode cX8_ifClipped 123 = .ok (.getfield 116, 3) := by decide +kernel
theorem dX8_ifClipped_126 : decode cX8_ifClipped 126 = .ok (.iload 6, 2) := by decide +kernel
theorem dX8_ifClipped_128 : decode cX8_ifClipped 128 = .ok (.invokestatic 257, 3) := by decide +kernel
theorem dX8_ifClipped_131 : decode cX8_ifClipped 131 = .ok (.imul, 1) := by decide +kernel
theorem dX8_ifClipped_132 : decode cX8_ifClipped 132 = .ok (.ireturn, 1) := by decide +kernel
theorem dX8_ifClipped_133 : decode cX8_ifClipped 133 = .ok (.iload 6, 2) := by decide +kernel
theorem dX8_ifClipped_135 : decode cX8_ifClipped 135 = .ok (.ireturn, 1) := by decide +kernel
theorem dX8_ifClipped_136 : decode cX8_ifClipped 136 = .ok (.bipush 100, 2) := by decide +kernel
theorem dX8_ifClipped_138 : decode cX8_ifClipped 138 = .ok (.aload_n 0, 1) := by decide +kernel
theorem dX8_ifClipped_139 : decode cX8_ifClipped 139 = .ok (.aload_n 0, 1) := by decide +kernel
theorem dX8_ifClipped_140 : decode cX8_ifClipped 140 = .ok (.getfield 12, 3) := by decide +kernel
theorem dX8_ifClipped_143 : decode cX8_ifClipped 143 = .ok (.iload 6, 2) := by decide +kernel
theorem dX8_ifClipped_145 : decode cX8_ifClipped 145 = .ok (.invokevirtual 260, 3) := by decide +kernel
theorem dX8_ifClipped_148 : decode cX8_ifClipped 148 = .ok (.iadd, 1) := by decide +kernel
theorem dX8_ifClipped_149 : decode cX8_ifClipped 149 = .ok (.ireturn, 1) := by decide +kernel
theorem dX8_ifClipped_150 : decode cX8_ifClipped 150 = .ok (.iload 5, 2) := by decide +kernel
theorem dX8_ifClipped_152 : decode cX8_ifClipped 152 = .ok (.invokestatic 118, 3) := by decide +kernel
theorem dX8_ifClipped_155 : decode cX8_ifClipped 155 = .ok (.iload 6, 2) := by decide +kernel
theorem dX8_ifClipped_157 : decode cX8_ifClipped 157 = .ok (.invokestatic 118, 3) := by decide +kernel
theorem dX8_ifClipped_160 : decode cX8_ifClipped 160 = .ok (.isub, 1) := by decide +kernel
theorem dX8_ifClipped_161 : decode cX8_ifClipped 161 = .ok (.ireturn, 1) := by decide +kernel
theorem dX8_worth_0 : decode cX8_worth 0 = .ok (.bipush 100, 2) := by decide +kernel
theorem dX8_worth_2 : decode cX8_worth 2 = .ok (.aload_n 0, 1) := by decide +kernel
theorem dX8_worth_3 : decode cX8_worth 3 = .ok (.aload_n 0, 1) := by decide +kernel
theorem dX8_worth_4 : decode cX8_worth 4 = .ok (.getfield 12, 3) := by decide +kernel
theorem dX8_worth_7 : decode cX8_worth 7 = .ok (.aload_n 0, 1) := by decide +kernel
theorem dX8_worth_8 : decode cX8_worth 8 = .ok (.getfield 12, 3) := by decide +kernel
theorem dX8_worth_11 : decode cX8_worth 11 = .ok (.getfield 116, 3) := by decide +kernel
theorem dX8_worth_14 : decode cX8_worth 14 = .ok (.invokevirtual 260, 3) := by decide +kernel
theorem dX8_worth_17 : decode cX8_worth 17 = .ok (.iadd, 1) := by decide +kernel
theorem dX8_worth_18 : decode cX8_worth 18 = .ok (.ireturn, 1) := by decide +kernel
theorem dX8_bestClip_0 : decode cX8_bestClip 0 = .ok (.aload_n 0, 1) := by decide +kernel
theorem dX8_bestClip_1 : decode cX8_bestClip 1 = .ok (.getfield 40, 3) := by decide +kernel
theorem dX8_bestClip_4 : decode cX8_bestClip 4 = .ok (.aload_n 0, 1) := by decide +kernel
theorem dX8_bestClip_5 : decode cX8_bestClip 5 = .ok (.getfield 12, 3) := by decide +kernel
theorem dX8_bestClip_8 : decode cX8_bestClip 8 = .ok (.invokevirtual 144, 3) := by decide +kernel
theorem dX8_bestClip_11 : decode cX8_bestClip 11 = .ok (.aload_n 0, 1) := by decide +kernel
theorem dX8_bestClip_12 : decode cX8_bestClip 12 = .ok (.getfield 12, 3) := by decide +kernel
theorem dX8_bestClip_15 : decode cX8_bestClip 15 = .ok (.getfield 116, 3) := by decide +kernel
theorem dX8_bestClip_18 : decode cX8_bestClip 18 = .ok (.invokevirtual 264, 3) := by decide +kernel
theorem dX8_bestClip_21 : decode cX8_bestClip 21 = .ok (.ireturn, 1) := by decide +kernel
theorem dX8_bestClips_0 : decode cX8_bestClips 0 = .ok (.aload_n 0, 1) := by decide +kernel
theorem dX8_bestClips_1 : decode cX8_bestClips 1 = .ok (.getfield 40, 3) := by decide +kernel
theorem dX8_bestClips_4 : decode cX8_bestClips 4 = .ok (.aload_n 0, 1) := by decide +kernel
theorem dX8_bestClips_5 : decode cX8_bestClips 5 = .ok (.getfield 12, 3) := by decide +kernel
theorem dX8_bestClips_8 : decode cX8_bestClips 8 = .ok (.invokevirtual 144, 3) := by decide +kernel
theorem dX8_bestClips_11 : decode cX8_bestClips 11 = .ok (.aload_n 0, 1) := by decide +kernel
theorem dX8_bestClips_12 : decode cX8_bestClips 12 = .ok (.getfield 12, 3) := by decide +kernel
theorem dX8_bestClips_15 : decode cX8_bestClips 15 = .ok (.getfield 116, 3) := by decide +kernel
theorem dX8_bestClips_18 : decode cX8_bestClips 18 = .ok (.invokevirtual 267, 3) := by decide +kernel
theorem dX8_bestClips_21 : decode cX8_bestClips 21 = .ok (.ireturn, 1) := by decide +kernel
theorem dX8_goesOn_0 : decode cX8_goesOn 0 = .ok (.iload_n 1, 1) := by decide +kernel
theorem dX8_goesOn_1 : decode cX8_goesOn 1 = .ok (.iconst 1, 1) := by decide +kernel
theorem dX8_goesOn_2 : decode cX8_goesOn 2 = .ok (.if_icmp .lt 9, 3) := by decide +kernel
theorem dX8_goesOn_5 : decode cX8_goesOn 5 = .ok (.iload_n 1, 1) := by decide +kernel
theorem dX8_goesOn_6 : decode cX8_goesOn 6 = .ok (.bipush 18, 2) := by decide +kernel
theorem dX8_goesOn_8 : decode cX8_goesOn 8 = .ok (.if_icmp .le 14, 3) := by decide +kernel
theorem dX8_goesOn_11 : decode cX8_goesOn 11 = .ok (.new 44, 3) := by decide +kernel
theorem dX8_goesOn_14 : decode cX8_goesOn 14 = .ok (.dup, 1) := by decide +kernel
theorem dX8_goesOn_15 : decode cX8_goesOn 15 = .ok (.ldc_w 270, 3) := by decide +kernel
theorem dX8_goesOn_18 : decode cX8_goesOn 18 = .ok (.invokespecial 48, 3) := by decide +kernel
theorem dX8_goesOn_21 : decode cX8_goesOn 21 = .ok (.athrow, 1) := by decide +kernel
theorem dX8_goesOn_22 : decode cX8_goesOn 22 = .ok (.iload_n 2, 1) := by decide +kernel
theorem dX8_goesOn_23 : decode cX8_goesOn 23 = .ok (.ifCond .lt 8, 3) := by decide +kernel
theorem dX8_goesOn_26 : decode cX8_goesOn 26 = .ok (.iload_n 2, 1) := by decide +kernel
theorem dX8_goesOn_27 : decode cX8_goesOn 27 = .ok (.iconst 1, 1) := by decide +kernel
theorem dX8_goesOn_28 : decode cX8_goesOn 28 = .ok (.if_icmp .le 13, 3) := by decide +kernel
theorem dX8_goesOn_31 : decode cX8_goesOn 31 = .ok (.new 44, 3) := by decide +kernel
theorem dX8_goesOn_34 : decode cX8_goesOn 34 = .ok (.dup, 1) := by decide +kernel
theorem dX8_goesOn_35 : decode cX8_goesOn 35 = .ok (.ldc 153, 2) := by decide +kernel
theorem dX8_goesOn_37 : decode cX8_goesOn 37 = .ok (.invokespecial 48, 3) := by decide +kernel
theorem dX8_goesOn_40 : decode cX8_goesOn 40 = .ok (.athrow, 1) := by decide +kernel
theorem dX8_goesOn_41 : decode cX8_goesOn 41 = .ok (.aload_n 0, 1) := by decide +kernel
theorem dX8_goesOn_42 : decode cX8_goesOn 42 = .ok (.getfield 40, 3) := by decide +kernel
theorem dX8_goesOn_45 : decode cX8_goesOn 45 = .ok (.aload_n 0, 1) := by decide +kernel
theorem dX8_goesOn_46 : decode cX8_goesOn 46 = .ok (.getfield 12, 3) := by decide +kernel
theorem dX8_goesOn_49 : decode cX8_goesOn 49 = .ok (.invokevirtual 144, 3) := by decide +kernel
theorem dX8_goesOn_52 : decode cX8_goesOn 52 = .ok (.astore_n 3, 1) := by decide +kernel
theorem dX8_goesOn_53 : decode cX8_goesOn 53 = .ok (.aload_n 0, 1) := by decide +kernel
theorem dX8_goesOn_54 : decode cX8_goesOn 54 = .ok (.getfield 12, 3) := by decide +kernel
theorem dX8_goesOn_57 : decode cX8_goesOn 57 = .ok (.getfield 116, 3) := by decide +kernel
theorem dX8_goesOn_60 : decode cX8_goesOn 60 = .ok (.istore 4, 2) := by decide +kernel
theorem dX8_goesOn_62 : decode cX8_goesOn 62 = .ok (.iconst 0, 1) := by decide +kernel
theorem dX8_goesOn_63 : decode cX8_goesOn 63 = .ok (.istore 5, 2) := by decide +kernel
theorem dX8_goesOn_65 : decode cX8_goesOn 65 = .ok (.iload 5, 2) := by decide +kernel
theorem dX8_goesOn_67 : decode cX8_goesOn 67 = .ok (.iload_n 1, 1) := by decide +kernel
theorem dX8_goesOn_68 : decode cX8_goesOn 68 = .ok (.if_icmp .ge 22, 3) := by decide +kernel
theorem dX8_goesOn_71 : decode cX8_goesOn 71 = .ok (.iload 4, 2) := by decide +kernel
theorem dX8_goesOn_73 : decode cX8_goesOn 73 = .ok (.ifCond .eq 17, 3) := by decide +kernel
theorem dX8_goesOn_76 : decode cX8_goesOn 76 = .ok (.aload_n 3, 1) := by decide +kernel
theorem dX8_goesOn_77 : decode cX8_goesOn 77 = .ok (.iload 4, 2) := by decide +kernel
theorem dX8_goesOn_79 : decode cX8_goesOn 79 = .ok (.invokevirtual 272, 3) := by decide +kernel
theorem dX8_goesOn_82 : decode cX8_goesOn 82 = .ok (.istore 4, 2) := by decide +kernel
theorem dX8_goesOn_84 : decode cX8_goesOn 84 = .ok (.iinc 5 1, 3) := by decide +kernel
theorem dX8_goesOn_87 : decode cX8_goesOn 87 = .ok (.goto (-22), 3) := by decide +kernel
theorem dX8_goesOn_90 : decode cX8_goesOn 90 = .ok (.iload_n 2, 1) := by decide +kernel
theorem dX8_goesOn_91 : decode cX8_goesOn 91 = .ok (.ifCond .ne 8, 3) := by decide +kernel
theorem dX8_goesOn_94 : decode cX8_goesOn 94 = .ok (.iload 4, 2) := by decide +kernel
theorem dX8_goesOn_96 : decode cX8_goesOn 96 = .ok (.goto 5, 3) := by decide +kernel
theorem dX8_goesOn_99 : decode cX8_goesOn 99 = .ok (.iload 5, 2) := by decide +kernel
theorem dX8_goesOn_101 : decode cX8_goesOn 101 = .ok (.ireturn, 1) := by decide +kernel
theorem dX8_bestWater_0 : decode cX8_bestWater 0 = .ok (.iconst (-1), 1) := by decide +kernel
theorem dX8_bestWater_1 : decode cX8_bestWater 1 = .ok (.istore_n 1, 1) := by decide +kernel
theorem dX8_bestWater_2 : decode cX8_bestWater 2 = .ok (.aload_n 0, 1) := by decide +kernel
theorem dX8_bestWater_3 : decode cX8_bestWater 3 = .ok (.aload_n 0, 1) := by decide +kernel
theorem dX8_bestWater_4 : decode cX8_bestWater 4 = .ok (.getfield 12, 3) := by decide +kernel
theorem dX8_bestWater_7 : decode cX8_bestWater 7 = .ok (.aload_n 0, 1) := by decide +kernel
theorem dX8_bestWater_8 : decode cX8_bestWater 8 = .ok (.getfield 12, 3) := by decide +kernel
theorem dX8_bestWater_11 : decode cX8_bestWater 11 = .ok (.getfield 116, 3) := by decide +kernel
theorem dX8_bestWater_14 : decode cX8_bestWater 14 = .ok (.invokevirtual 260, 3) := by decide +kernel
theorem dX8_bestWater_17 : decode cX8_bestWater 17 = .ok (.istore_n 2, 1) := by decide +kernel
theorem dX8_bestWater_18 : decode cX8_bestWater 18 = .ok (.iconst 0, 1) := by decide +kernel
theorem dX8_bestWater_19 : decode cX8_bestWater 19 = .ok (.istore_n 3, 1) := by decide +kernel
theorem dX8_bestWater_20 : decode cX8_bestWater 20 = .ok (.iload_n 3, 1) := by decide +kernel
theorem dX8_bestWater_21 : decode cX8_bestWater 21 = .ok (.aload_n 0, 1) := by decide +kernel
theorem dX8_bestWater_22 : decode cX8_bestWater 22 = .ok (.getfield 12, 3) := by decide +kernel
theorem dX8_bestWater_25 : decode cX8_bestWater 25 = .ok (.getfield 114, 3) := by decide +kernel
theorem dX8_bestWater_28 : decode cX8_bestWater 28 = .ok (.if_icmp .ge 55, 3) := by decide +kernel
theorem dX8_bestWater_31 : decode cX8_bestWater 31 = .ok (.aload_n 0, 1) := by decide +kernel
theorem dX8_bestWater_32 : decode cX8_bestWater 32 = .ok (.getfield 12, 3) := by decide +kernel
theorem dX8_bestWater_35 : decode cX8_bestWater 35 = .ok (.getfield 116, 3) := by decide +kernel
theorem dX8_bestWater_38 : decode cX8_bestWater 38 = .ok (.iload_n 3, 1) := by decide +kernel
theorem dX8_bestWater_39 : decode cX8_bestWater 39 = .ok (.invokestatic 227, 3) := by decide +kernel
theorem dX8_bestWater_42 : decode cX8_bestWater 42 = .ok (.ifCond .ne 35, 3) := by decide +kernel
theorem dX8_bestWater_45 : decode cX8_bestWater 45 = .ok (.aload_n 0, 1) := by decide +kernel
theorem dX8_bestWater_46 : decode cX8_bestWater 46 = .ok (.aload_n 0, 1) := by decide +kernel
theorem dX8_bestWater_47 : decode cX8_bestWater 47 = .ok (.getfield 12, 3) := by decide +kernel
theorem dX8_bestWater_50 : decode cX8_bestWater 50 = .ok (.aload_n 0, 1) := by decide +kernel
theorem dX8_bestWater_51 : decode cX8_bestWater 51 = .ok (.getfield 12, 3) := by decide +kernel
theorem dX8_bestWater_54 : decode cX8_bestWater 54 = .ok (.getfield 116, 3) := by decide +kernel
theorem dX8_bestWater_57 : decode cX8_bestWater 57 = .ok (.iload_n 3, 1) := by decide +kernel
theorem dX8_bestWater_58 : decode cX8_bestWater 58 = .ok (.invokestatic 233, 3) := by decide +kernel
theorem dX8_bestWater_61 : decode cX8_bestWater 61 = .ok (.invokevirtual 260, 3) := by decide +kernel
theorem dX8_bestWater_64 : decode cX8_bestWater 64 = .ok (.istore 4, 2) := by decide +kernel
theorem dX8_bestWater_66 : decode cX8_bestWater 66 = .ok (.iload 4, 2) := by decide +kernel
theorem dX8_bestWater_68 : decode cX8_bestWater 68 = .ok (.iload_n 2, 1) := by decide +kernel
theorem dX8_bestWater_69 : decode cX8_bestWater 69 = .ok (.if_icmp .le 8, 3) := by decide +kernel
theorem dX8_bestWater_72 : decode cX8_bestWater 72 = .ok (.iload 4, 2) := by decide +kernel
theorem dX8_bestWater_74 : decode cX8_bestWater 74 = .ok (.istore_n 2, 1) := by decide +kernel
theorem dX8_bestWater_75 : decode cX8_bestWater 75 = .ok (.iload_n 3, 1) := by decide +kernel
theorem dX8_bestWater_76 : decode cX8_bestWater 76 = .ok (.istore_n 1, 1) := by decide +kernel
theorem dX8_bestWater_77 : decode cX8_bestWater 77 = .ok (.iinc 3 1, 3) := by decide +kernel
theorem dX8_bestWater_80 : decode cX8_bestWater 80 = .ok (.goto (-60), 3) := by decide +kernel
theorem dX8_bestWater_83 : decode cX8_bestWater 83 = .ok (.iload_n 1, 1) := by decide +kernel
theorem dX8_bestWater_84 : decode cX8_bestWater 84 = .ok (.ireturn, 1) := by decide +kernel
theorem dX8_winner_0 : decode cX8_winner 0 = .ok (.aload_n 0, 1) := by decide +kernel
theorem dX8_winner_1 : decode cX8_winner 1 = .ok (.aload_n 0, 1) := by decide +kernel
theorem dX8_winner_2 : decode cX8_winner 2 = .ok (.getfield 12, 3) := by decide +kernel
theorem dX8_winner_5 : decode cX8_winner 5 = .ok (.invokevirtual 275, 3) := by decide +kernel
theorem dX8_winner_8 : decode cX8_winner 8 = .ok (.ireturn, 1) := by decide +kernel
theorem dX8_worthOf_0 : decode cX8_worthOf 0 = .ok (.aload_n 1, 1) := by decide +kernel
theorem dX8_worthOf_1 : decode cX8_worthOf 1 = .ok (.getfield 189, 3) := by decide +kernel
theorem dX8_worthOf_4 : decode cX8_worthOf 4 = .ok (.aload_n 0, 1) := by decide +kernel
theorem dX8_worthOf_5 : decode cX8_worthOf 5 = .ok (.getfield 40, 3) := by decide +kernel
theorem dX8_worthOf_8 : decode cX8_worthOf 8 = .ok (.aload_n 1, 1) := by decide +kernel
theorem dX8_worthOf_9 : decode cX8_worthOf 9 = .ok (.invokevirtual 144, 3) := by decide +kernel
theorem dX8_worthOf_12 : decode cX8_worthOf 12 = .ok (.iload_n 2, 1) := by decide +kernel
theorem dX8_worthOf_13 : decode cX8_worthOf 13 = .ok (.iconst 0, 1) := by decide +kernel
theorem dX8_worthOf_14 : decode cX8_worthOf 14 = .ok (.invokevirtual 279, 3) := by decide +kernel
theorem dX8_worthOf_17 : decode cX8_worthOf 17 = .ok (.imul, 1) := by decide +kernel
theorem dX8_worthOf_18 : decode cX8_worthOf 18 = .ok (.ireturn, 1) := by decide +kernel
theorem dX8_winnerOf_0 : decode cX8_winnerOf 0 = .ok (.iconst 1, 1) := by decide +kernel
theorem dX8_winnerOf_1 : decode cX8_winnerOf 1 = .ok (.aload_n 1, 1) := by decide +kernel
theorem dX8_winnerOf_2 : decode cX8_winnerOf 2 = .ok (.getfield 134, 3) := by decide +kernel
theorem dX8_winnerOf_5 : decode cX8_winnerOf 5 = .ok (.isub, 1) := by decide +kernel
theorem dX8_winnerOf_6 : decode cX8_winnerOf 6 = .ok (.istore_n 2, 1) := by decide +kernel
theorem dX8_winnerOf_7 : decode cX8_winnerOf 7 = .ok (.aload_n 1, 1) := by decide +kernel
theorem dX8_winnerOf_8 : decode cX8_winnerOf 8 = .ok (.iload_n 2, 1) := by decide +kernel
theorem dX8_winnerOf_9 : decode cX8_winnerOf 9 = .ok (.invokevirtual 171, 3) := by decide +kernel
theorem dX8_winnerOf_12 : decode cX8_winnerOf 12 = .ok (.getfield 175, 3) := by decide +kernel
theorem dX8_winnerOf_15 : decode cX8_winnerOf 15 = .ok (.aload_n 1, 1) := by decide +kernel
theorem dX8_winnerOf_16 : decode cX8_winnerOf 16 = .ok (.aload_n 1, 1) := by decide +kernel
theorem dX8_winnerOf_17 : decode cX8_winnerOf 17 = .ok (.getfield 134, 3) := by decide +kernel
theorem dX8_winnerOf_20 : decode cX8_winnerOf 20 = .ok (.invokevirtual 171, 3) := by decide +kernel
theorem dX8_winnerOf_23 : decode cX8_winnerOf 23 = .ok (.getfield 175, 3) := by decide +kernel
theorem dX8_winnerOf_26 : decode cX8_winnerOf 26 = .ok (.isub, 1) := by decide +kernel
theorem dX8_winnerOf_27 : decode cX8_winnerOf 27 = .ok (.aload_n 0, 1) := by decide +kernel
theorem dX8_winnerOf_28 : decode cX8_winnerOf 28 = .ok (.aload_n 1, 1) := by decide +kernel
theorem dX8_winnerOf_29 : decode cX8_winnerOf 29 = .ok (.aload_n 1, 1) := by decide +kernel
theorem dX8_winnerOf_30 : decode cX8_winnerOf 30 = .ok (.getfield 116, 3) := by decide +kernel
theorem dX8_winnerOf_33 : decode cX8_winnerOf 33 = .ok (.invokevirtual 260, 3) := by decide +kernel
theorem dX8_winnerOf_36 : decode cX8_winnerOf 36 = .ok (.iadd, 1) := by decide +kernel
theorem dX8_winnerOf_37 : decode cX8_winnerOf 37 = .ok (.istore_n 3, 1) := by decide +kernel
theorem dX8_winnerOf_38 : decode cX8_winnerOf 38 = .ok (.iload_n 3, 1) := by decide +kernel
theorem dX8_winnerOf_39 : decode cX8_winnerOf 39 = .ok (.ifCond .ne 5, 3) := by decide +kernel
theorem dX8_winnerOf_42 : decode cX8_winnerOf 42 = .ok (.iconst 2, 1) := by decide +kernel
theorem dX8_winnerOf_43 : decode cX8_winnerOf 43 = .ok (.ireturn, 1) := by decide +kernel
theorem dX8_winnerOf_44 : decode cX8_winnerOf 44 = .ok (.iload_n 3, 1) := by decide +kernel
theorem dX8_winnerOf_45 : decode cX8_winnerOf 45 = .ok (.ifCond .le 10, 3) := by decide +kernel
theorem dX8_winnerOf_48 : decode cX8_winnerOf 48 = .ok (.aload_n 1, 1) := by decide +kernel
theorem dX8_winnerOf_49 : decode cX8_winnerOf 49 = .ok (.getfield 134, 3) := by decide +kernel
theorem dX8_winnerOf_52 : decode cX8_winnerOf 52 = .ok (.goto 4, 3) := by decide +kernel
theorem dX8_winnerOf_55 : decode cX8_winnerOf 55 = .ok (.iload_n 2, 1) := by decide +kernel
theorem dX8_winnerOf_56 : decode cX8_winnerOf 56 = .ok (.ireturn, 1) := by decide +kernel
theorem dX8_triesBestClip_0 : decode cX8_triesBestClip 0 = .ok (.aload_n 0, 1) := by decide +kernel
theorem dX8_triesBestClip_1 : decode cX8_triesBestClip 1 = .ok (.getfield 40, 3) := by decide +kernel
theorem dX8_triesBestClip_4 : decode cX8_triesBestClip 4 = .ok (.aload_n 1, 1) := by decide +kernel
theorem dX8_triesBestClip_5 : decode cX8_triesBestClip 5 = .ok (.invokevirtual 144, 3) := by decide +kernel
theorem dX8_triesBestClip_8 : decode cX8_triesBestClip 8 = .ok (.aload_n 1, 1) := by decide +kernel
theorem dX8_triesBestClip_9 : decode cX8_triesBestClip 9 = .ok (.getfield 116, 3) := by decide +kernel
theorem dX8_triesBestClip_12 : decode cX8_triesBestClip 12 = .ok (.invokevirtual 264, 3) := by decide +kernel
theorem dX8_triesBestClip_15 : decode cX8_triesBestClip 15 = .ok (.istore_n 2, 1) := by decide +kernel
theorem dX8_triesBestClip_16 : decode cX8_triesBestClip 16 = .ok (.iload_n 2, 1) := by decide +kernel
theorem dX8_triesBestClip_17 : decode cX8_triesBestClip 17 = .ok (.iconst (-1), 1) := by decide +kernel
theorem dX8_triesBestClip_18 : decode cX8_triesBestClip 18 = .ok (.if_icmp .ne 5, 3) := by decide +kernel
theorem dX8_triesBestClip_21 : decode cX8_triesBestClip 21 = .ok (.iconst 0, 1) := by decide +kernel
theorem dX8_triesBestClip_22 : decode cX8_triesBestClip 22 = .ok (.ireturn, 1) := by decide +kernel
theorem dX8_triesBestClip_23 : decode cX8_triesBestClip 23 = .ok (.aload_n 1, 1) := by decide +kernel
theorem dX8_triesBestClip_24 : decode cX8_triesBestClip 24 = .ok (.iload_n 2, 1) := by decide +kernel
theorem dX8_triesBestClip_25 : decode cX8_triesBestClip 25 = .ok (.invokevirtual 224, 3) := by decide +kernel
theorem dX8_triesBestClip_28 : decode cX8_triesBestClip 28 = .ok (.pop, 1) := by decide +kernel
theorem dX8_triesBestClip_29 : decode cX8_triesBestClip 29 = .ok (.iconst 1, 1) := by decide +kernel
theorem dX8_triesBestClip_30 : decode cX8_triesBestClip 30 = .ok (.ireturn, 1) := by decide +kernel
theorem dX8_runScript_0 : decode cX8_runScript 0 = .ok (.iload_n 1, 1) := by decide +kernel
theorem dX8_runScript_1 : decode cX8_runScript 1 = .ok (.iconst 1, 1) := by decide +kernel
theorem dX8_runScript_2 : decode cX8_runScript 2 = .ok (.if_icmp .lt 8, 3) := by decide +kernel
theorem dX8_runScript_5 : decode cX8_runScript 5 = .ok (.iload_n 1, 1) := by decide +kernel
theorem dX8_runScript_6 : decode cX8_runScript 6 = .ok (.iconst 3, 1) := by decide +kernel
theorem dX8_runScript_7 : decode cX8_runScript 7 = .ok (.if_icmp .le 14, 3) := by decide +kernel
theorem dX8_runScript_10 : decode cX8_runScript 10 = .ok (.new 44, 3) := by decide +kernel
theorem dX8_runScript_13 : decode cX8_runScript 13 = .ok (.dup, 1) := by decide +kernel
theorem dX8_runScript_14 : decode cX8_runScript 14 = .ok (.ldc_w 282, 3) := by decide +kernel
theorem dX8_runScript_17 : decode cX8_runScript 17 = .ok (.invokespecial 48, 3) := by decide +kernel
theorem dX8_runScript_20 : decode cX8_runScript 20 = .ok (.athrow, 1) := by decide +kernel
theorem dX8_runScript_21 : decode cX8_runScript 21 = .ok (.lload_n 2, 1) := by decide +kernel
theorem dX8_runScript_22 : decode cX8_runScript 22 = .ok (.lconst 0, 1) := by decide +kernel
theorem dX8_runScript_23 : decode cX8_runScript 23 = .ok (.lcmp, 1) := by decide +kernel
theorem dX8_runScript_24 : decode cX8_runScript 24 = .ok (.ifCond .lt 13, 3) := by decide +kernel
theorem dX8_runScript_27 : decode cX8_runScript 27 = .ok (.lload_n 2, 1) := by decide +kernel
theorem dX8_runScript_28 : decode cX8_runScript 28 = .ok (.iload_n 1, 1) := by decide +kernel
theorem dX8_runScript_29 : decode cX8_runScript 29 = .ok (.invokestatic 284, 3) := by decide +kernel
theorem dX8_runScript_32 : decode cX8_runScript 32 = .ok (.lconst 0, 1) := by decide +kernel
theorem dX8_runScript_33 : decode cX8_runScript 33 = .ok (.lcmp, 1) := by decide +kernel
theorem dX8_runScript_34 : decode cX8_runScript 34 = .ok (.ifCond .eq 14, 3) := by decide +kernel
theorem dX8_runScript_37 : decode cX8_runScript 37 = .ok (.new 44, 3) := by decide +kernel
theorem dX8_runScript_40 : decode cX8_runScript 40 = .ok (.dup, 1) := by decide +kernel
theorem dX8_runScript_41 : decode cX8_runScript 41 = .ok (.ldc_w 288, 3) := by decide +kernel
theorem dX8_runScript_44 : decode cX8_runScript 44 = .ok (.invokespecial 48, 3) := by decide +kernel
theorem dX8_runScript_47 : decode cX8_runScript 47 = .ok (.athrow, 1) := by decide +kernel
theorem dX8_runScript_48 : decode cX8_runScript 48 = .ok (.aload_n 0, 1) := by decide +kernel
theorem dX8_runScript_49 : decode cX8_runScript 49 = .ok (.getfield 16, 3) := by decide +kernel
theorem dX8_runScript_52 : decode cX8_runScript 52 = .ok (.aload_n 0, 1) := by decide +kernel
theorem dX8_runScript_53 : decode cX8_runScript 53 = .ok (.getfield 12, 3) := by decide +kernel
theorem dX8_runScript_56 : decode cX8_runScript 56 = .ok (.invokevirtual 290, 3) := by decide +kernel
theorem dX8_runScript_59 : decode cX8_runScript 59 = .ok (.iconst 0, 1) := by decide +kernel
theorem dX8_runScript_60 : decode cX8_runScript 60 = .ok (.istore 4, 2) := by decide +kernel
theorem dX8_runScript_62 : decode cX8_runScript 62 = .ok (.iload 4, 2) := by decide +kernel
theorem dX8_runScript_64 : decode cX8_runScript 64 = .ok (.iload_n 1, 1) := by decide +kernel
theorem dX8_runScript_65 : decode cX8_runScript 65 = .ok (.if_icmp .ge 34, 3) := by decide +kernel
theorem dX8_runScript_68 : decode cX8_runScript 68 = .ok (.aload_n 0, 1) := by decide +kernel
theorem dX8_runScript_69 : decode cX8_runScript 69 = .ok (.lload_n 2, 1) := by decide +kernel
theorem dX8_runScript_70 : decode cX8_runScript 70 = .ok (.iload_n 1, 1) := by decide +kernel
theorem dX8_runScript_71 : decode cX8_runScript 71 = .ok (.iconst 1, 1) := by decide +kernel
theorem dX8_runScript_72 : decode cX8_runScript 72 = .ok (.isub, 1) := by decide +kernel
theorem dX8_runScript_73 : decode cX8_runScript 73 = .ok (.iload 4, 2) := by decide +kernel
theorem dX8_runScript_75 : decode cX8_runScript 75 = .ok (.isub, 1) := by decide +kernel
theorem dX8_runScript_76 : decode cX8_runScript 76 = .ok (.invokestatic 284, 3) := by decide +kernel
theorem dX8_runScript_79 : decode cX8_runScript 79 = .ok (.ldc2_w 293, 3) := by decide +kernel
theorem dX8_runScript_82 : decode cX8_runScript 82 = .ok (.lrem, 1) := by decide +kernel
theorem dX8_runScript_83 : decode cX8_runScript 83 = .ok (.l2i, 1) := by decide +kernel
theorem dX8_runScript_84 : decode cX8_runScript 84 = .ok (.invokevirtual 295, 3) := by decide +kernel
theorem dX8_runScript_87 : decode cX8_runScript 87 = .ok (.ifCond .ne 6, 3) := by decide +kernel
theorem dX8_runScript_90 : decode cX8_runScript 90 = .ok (.iload 4, 2) := by decide +kernel
theorem dX8_runScript_92 : decode cX8_runScript 92 = .ok (.ireturn, 1) := by decide +kernel
theorem dX8_runScript_93 : decode cX8_runScript 93 = .ok (.iinc 4 1, 3) := by decide +kernel
theorem dX8_runScript_96 : decode cX8_runScript 96 = .ok (.goto (-34), 3) := by decide +kernel
theorem dX8_runScript_99 : decode cX8_runScript 99 = .ok (.iconst (-1), 1) := by decide +kernel
theorem dX8_runScript_100 : decode cX8_runScript 100 = .ok (.ireturn, 1) := by decide +kernel
theorem dX8_withoutGroups_0 : decode cX8_withoutGroups 0 = .ok (.lload_n 0, 1) := by decide +kernel
theorem dX8_withoutGroups_1 : decode cX8_withoutGroups 1 = .ok (.lstore_n 3, 1) := by decide +kernel
theorem dX8_withoutGroups_2 : decode cX8_withoutGroups 2 = .ok (.iconst 0, 1) := by decide +kernel
theorem dX8_withoutGroups_3 : decode cX8_withoutGroups 3 = .ok (.istore 5, 2) := by decide +kernel
theorem dX8_withoutGroups_5 : decode cX8_withoutGroups 5 = .ok (.iload 5, 2) := by decide +kernel
theorem dX8_withoutGroups_7 : decode cX8_withoutGroups 7 = .ok (.iload_n 2, 1) := by decide +kernel
theorem dX8_withoutGroups_8 : decode cX8_withoutGroups 8 = .ok (.if_icmp .ge 15, 3) := by decide +kernel
theorem dX8_withoutGroups_11 : decode cX8_withoutGroups 11 = .ok (.lload_n 3, 1) := by decide +kernel
theorem dX8_withoutGroups_12 : decode cX8_withoutGroups 12 = .ok (.ldc2_w 293, 3) := by decide +kernel
theorem dX8_withoutGroups_15 : decode cX8_withoutGroups 15 = .ok (.ldiv, 1) := by decide +kernel
theorem dX8_withoutGroups_16 : decode cX8_withoutGroups 16 = .ok (.lstore_n 3, 1) := by decide +kernel
theorem dX8_withoutGroups_17 : decode cX8_withoutGroups 17 = .ok (.iinc 5 1, 3) := by decide +kernel
theorem dX8_withoutGroups_20 : decode cX8_withoutGroups 20 = .ok (.goto (-15), 3) := by decide +kernel
theorem dX8_withoutGroups_23 : decode cX8_withoutGroups 23 = .ok (.lload_n 3, 1) := by decide +kernel
theorem dX8_withoutGroups_24 : decode cX8_withoutGroups 24 = .ok (.lreturn, 1) := by decide +kernel
theorem dX8_obeyGroup_0 : decode cX8_obeyGroup 0 = .ok (.iload_n 1, 1) := by decide +kernel
theorem dX8_obeyGroup_1 : decode cX8_obeyGroup 1 = .ok (.bipush 100, 2) := by decide +kernel
theorem dX8_obeyGroup_3 : decode cX8_obeyGroup 3 = .ok (.idiv, 1) := by decide +kernel
theorem dX8_obeyGroup_4 : decode cX8_obeyGroup 4 = .ok (.bipush 10, 2) := by decide +kernel
theorem dX8_obeyGroup_6 : decode cX8_obeyGroup 6 = .ok (.irem, 1) := by decide +kernel
theorem dX8_obeyGroup_7 : decode cX8_obeyGroup 7 = .ok (.istore_n 2, 1) := by decide +kernel
theorem dX8_obeyGroup_8 : decode cX8_obeyGroup 8 = .ok (.iload_n 1, 1) := by decide +kernel
theorem dX8_obeyGroup_9 : decode cX8_obeyGroup 9 = .ok (.bipush 10, 2) := by decide +kernel
theorem dX8_obeyGroup_11 : decode cX8_obeyGroup 11 = .ok (.idiv, 1) := by decide +kernel
theorem dX8_obeyGroup_12 : decode cX8_obeyGroup 12 = .ok (.bipush 10, 2) := by decide +kernel
theorem dX8_obeyGroup_14 : decode cX8_obeyGroup 14 = .ok (.irem, 1) := by decide +kernel
theorem dX8_obeyGroup_15 : decode cX8_obeyGroup 15 = .ok (.istore_n 3, 1) := by decide +kernel
theorem dX8_obeyGroup_16 : decode cX8_obeyGroup 16 = .ok (.iload_n 1, 1) := by decide +kernel
theorem dX8_obeyGroup_17 : decode cX8_obeyGroup 17 = .ok (.bipush 10, 2) := by decide +kernel
theorem dX8_obeyGroup_19 : decode cX8_obeyGroup 19 = .ok (.irem, 1) := by decide +kernel
theorem dX8_obeyGroup_20 : decode cX8_obeyGroup 20 = .ok (.istore 4, 2) := by decide +kernel
theorem dX8_obeyGroup_22 : decode cX8_obeyGroup 22 = .ok (.iload_n 1, 1) := by decide +kernel
theorem dX8_obeyGroup_23 : decode cX8_obeyGroup 23 = .ok (.bipush 100, 2) := by decide +kernel
theorem dX8_obeyGroup_25 : decode cX8_obeyGroup 25 = .ok (.irem, 1) := by decide +kernel
theorem dX8_obeyGroup_26 : decode cX8_obeyGroup 26 = .ok (.istore 5, 2) := by decide +kernel
theorem dX8_obeyGroup_28 : decode cX8_obeyGroup 28 = .ok (.iload_n 1, 1) := by decide +kernel
theorem dX8_obeyGroup_29 : decode cX8_obeyGroup 29 = .ok (.sipush 1000, 3) := by decide +kernel
theorem dX8_obeyGroup_32 : decode cX8_obeyGroup 32 = .ok (.idiv, 1) := by decide +kernel
theorem dX8_obeyGroup_33 : decode cX8_obeyGroup 33 = .ok (.tableswitch 279 1 9 #[51, 63, 85, 111, 131, 155, 184, 221, 252], 51) := by decide +kernel
theorem dX8_obeyGroup_84 : decode cX8_obeyGroup 84 = .ok (.aload_n 0, 1) := by decide +kernel
theorem dX8_obeyGroup_85 : decode cX8_obeyGroup 85 = .ok (.getfield 16, 3) := by decide +kernel
theorem dX8_obeyGroup_88 : decode cX8_obeyGroup 88 = .ok (.iload_n 2, 1) := by decide +kernel
theorem dX8_obeyGroup_89 : decode cX8_obeyGroup 89 = .ok (.iload_n 3, 1) := by decide +kernel
theorem dX8_obeyGroup_90 : decode cX8_obeyGroup 90 = .ok (.iload 4, 2) := by decide +kernel
theorem dX8_obeyGroup_92 : decode cX8_obeyGroup 92 = .ok (.invokevirtual 97, 3) := by decide +kernel
theorem dX8_obeyGroup_95 : decode cX8_obeyGroup 95 = .ok (.ireturn, 1) := by decide +kernel
theorem dX8_obeyGroup_96 : decode cX8_obeyGroup 96 = .ok (.iload 5, 2) := by decide +kernel
theorem dX8_obeyGroup_98 : decode cX8_obeyGroup 98 = .ok (.ifCond .ne 18, 3) := by decide +kernel
theorem dX8_obeyGroup_101 : decode cX8_obeyGroup 101 = .ok (.aload_n 0, 1) := by decide +kernel
theorem dX8_obeyGroup_102 : decode cX8_obeyGroup 102 = .ok (.getfield 16, 3) := by decide +kernel
theorem dX8_obeyGroup_105 : decode cX8_obeyGroup 105 = .ok (.iload_n 2, 1) := by decide +kernel
theorem dX8_obeyGroup_106 : decode cX8_obeyGroup 106 = .ok (.invokevirtual 101, 3) := by decide +kernel
theorem dX8_obeyGroup_109 : decode cX8_obeyGroup 109 = .ok (.ifCond .eq 7, 3) := by decide +kernel
theorem dX8_obeyGroup_112 : decode cX8_obeyGroup 112 = .ok (.iconst 1, 1) := by decide +kernel
theorem dX8_obeyGroup_113 : decode cX8_obeyGroup 113 = .ok (.goto 4, 3) := by decide +kernel
theorem dX8_obeyGroup_116 : decode cX8_obeyGroup 116 = .ok (.iconst 0, 1) := by decide +kernel
theorem dX8_obeyGroup_117 : decode cX8_obeyGroup 117 = .ok (.ireturn, 1) := by decide +kernel
theorem dX8_obeyGroup_118 : decode cX8_obeyGroup 118 = .ok (.iload_n 2, 1) := by decide +kernel
theorem dX8_obeyGroup_119 : decode cX8_obeyGroup 119 = .ok (.ifCond .ne 23, 3) := by decide +kernel
theorem dX8_obeyGroup_122 : decode cX8_obeyGroup 122 = .ok (.iload_n 3, 1) := by decide +kernel
theorem dX8_obeyGroup_123 : decode cX8_obeyGroup 123 = .ok (.ifCond .ne 19, 3) := by decide +kernel
theorem dX8_obeyGroup_126 : decode cX8_obeyGroup 126 = .ok (.aload_n 0, 1) := by decide +kernel
theorem dX8_obeyGroup_127 : decode cX8_obeyGroup 127 = .ok (.getfield 16, 3) := by decide +kernel
theorem dX8_obeyGroup_130 : decode cX8_obeyGroup 130 = .ok (.iload 4, 2) := by decide +kernel
theorem dX8_obeyGroup_132 : decode cX8_obeyGroup 132 = .ok (.invokevirtual 104, 3) := by decide +kernel
theorem dX8_obeyGroup_135 : decode cX8_obeyGroup 135 = .ok (.ifCond .eq 7, 3) := by decide +kernel
theorem dX8_obeyGroup_138 : decode cX8_obeyGroup 138 = .ok (.iconst 1, 1) := by decide +kernel
theorem dX8_obeyGroup_139 : decode cX8_obeyGroup 139 = .ok (.goto 4, 3) := by decide +kernel
theorem dX8_obeyGroup_142 : decode cX8_obeyGroup 142 = .ok (.iconst 0, 1) := by decide +kernel
theorem dX8_obeyGroup_143 : decode cX8_obeyGroup 143 = .ok (.ireturn, 1) := by decide +kernel
theorem dX8_obeyGroup_144 : decode cX8_obeyGroup 144 = .ok (.aload_n 0, 1) := by decide +kernel
theorem dX8_obeyGroup_145 : decode cX8_obeyGroup 145 = .ok (.getfield 16, 3) := by decide +kernel
theorem dX8_obeyGroup_148 : decode cX8_obeyGroup 148 = .ok (.invokevirtual 107, 3) := by decide +kernel
theorem dX8_obeyGroup_151 : decode cX8_obeyGroup 151 = .ok (.iload_n 1, 1) := by decide +kernel
theorem dX8_obeyGroup_152 : decode cX8_obeyGroup 152 = .ok (.sipush 4000, 3) := by decide +kernel
theorem dX8_obeyGroup_155 : decode cX8_obeyGroup 155 = .ok (.if_icmp .ne 7, 3) := by decide +kernel
theorem dX8_obeyGroup_158 : decode cX8_obeyGroup 158 = .ok (.iconst 1, 1) := by decide +kernel
theorem dX8_obeyGroup_159 : decode cX8_obeyGroup 159 = .ok (.goto 4, 3) := by decide +kernel
theorem dX8_obeyGroup_162 : decode cX8_obeyGroup 162 = .ok (.iconst 0, 1) := by decide +kernel
theorem dX8_obeyGroup_163 : decode cX8_obeyGroup 163 = .ok (.ireturn, 1) := by decide +kernel
theorem dX8_obeyGroup_164 : decode cX8_obeyGroup 164 = .ok (.iload_n 1, 1) := by decide +kernel
theorem dX8_obeyGroup_165 : decode cX8_obeyGroup 165 = .ok (.sipush 5000, 3) := by decide +kernel
theorem dX8_obeyGroup_168 : decode cX8_obeyGroup 168 = .ok (.if_icmp .ne 18, 3) := by decide +kernel
theorem dX8_obeyGroup_171 : decode cX8_obeyGroup 171 = .ok (.aload_n 0, 1) := by decide +kernel
theorem dX8_obeyGroup_172 : decode cX8_obeyGroup 172 = .ok (.aload_n 0, 1) := by decide +kernel
theorem dX8_obeyGroup_173 : decode cX8_obeyGroup 173 = .ok (.getfield 16, 3) := by decide +kernel
theorem dX8_obeyGroup_176 : decode cX8_obeyGroup 176 = .ok (.invokevirtual 110, 3) := by decide +kernel
theorem dX8_obeyGroup_179 : decode cX8_obeyGroup 179 = .ok (.ifCond .eq 7, 3) := by decide +kernel
theorem dX8_obeyGroup_182 : decode cX8_obeyGroup 182 = .ok (.iconst 1, 1) := by decide +kernel
theorem dX8_obeyGroup_183 : decode cX8_obeyGroup 183 = .ok (.goto 4, 3) := by decide +kernel
theorem dX8_obeyGroup_186 : decode cX8_obeyGroup 186 = .ok (.iconst 0, 1) := by decide +kernel
theorem dX8_obeyGroup_187 : decode cX8_obeyGroup 187 = .ok (.ireturn, 1) := by decide +kernel
theorem dX8_obeyGroup_188 : decode cX8_obeyGroup 188 = .ok (.iload_n 2, 1) := by decide +kernel
theorem dX8_obeyGroup_189 : decode cX8_obeyGroup 189 = .ok (.invokestatic 163, 3) := by decide +kernel
theorem dX8_obeyGroup_192 : decode cX8_obeyGroup 192 = .ok (.ifCond .eq 23, 3) := by decide +kernel
theorem dX8_obeyGroup_195 : decode cX8_obeyGroup 195 = .ok (.aload_n 0, 1) := by decide +kernel
theorem dX8_obeyGroup_196 : decode cX8_obeyGroup 196 = .ok (.getfield 16, 3) := by decide +kernel
theorem dX8_obeyGroup_199 : decode cX8_obeyGroup 199 = .ok (.iload_n 2, 1) := by decide +kernel
theorem dX8_obeyGroup_200 : decode cX8_obeyGroup 200 = .ok (.invokevirtual 171, 3) := by decide +kernel
theorem dX8_obeyGroup_203 : decode cX8_obeyGroup 203 = .ok (.getfield 175, 3) := by decide +kernel
theorem dX8_obeyGroup_206 : decode cX8_obeyGroup 206 = .ok (.iload 5, 2) := by decide +kernel
theorem dX8_obeyGroup_208 : decode cX8_obeyGroup 208 = .ok (.if_icmp .gt 7, 3) := by decide +kernel
theorem dX8_obeyGroup_211 : decode cX8_obeyGroup 211 = .ok (.iconst 1, 1) := by decide +kernel
theorem dX8_obeyGroup_212 : decode cX8_obeyGroup 212 = .ok (.goto 4, 3) := by decide +kernel
theorem dX8_obeyGroup_215 : decode cX8_obeyGroup 215 = .ok (.iconst 0, 1) := by decide +kernel
theorem dX8_obeyGroup_216 : decode cX8_obeyGroup 216 = .ok (.ireturn, 1) := by decide +kernel
theorem dX8_obeyGroup_217 : decode cX8_obeyGroup 217 = .ok (.iload_n 3, 1) := by decide +kernel
theorem dX8_obeyGroup_218 : decode cX8_obeyGroup 218 = .ok (.ifCond .ne 34, 3) := by decide +kernel
theorem dX8_obeyGroup_221 : decode cX8_obeyGroup 221 = .ok (.aload_n 0, 1) := by decide +kernel
theorem dX8_obeyGroup_222 : decode cX8_obeyGroup 222 = .ok (.getfield 16, 3) := by decide +kernel
theorem dX8_obeyGroup_225 : decode cX8_obeyGroup 225 = .ok (.iload_n 2, 1) := by decide +kernel
theorem dX8_obeyGroup_226 : decode cX8_obeyGroup 226 = .ok (.invokevirtual 298, 3) := by decide +kernel
theorem dX8_obeyGroup_229 : decode cX8_obeyGroup 229 = .ok (.ifCond .eq 23, 3) := by decide +kernel
theorem dX8_obeyGroup_232 : decode cX8_obeyGroup 232 = .ok (.aload_n 0, 1) := by decide +kernel
theorem dX8_obeyGroup_233 : decode cX8_obeyGroup 233 = .ok (.getfield 16, 3) := by decide +kernel
theorem dX8_obeyGroup_236 : decode cX8_obeyGroup 236 = .ok (.getfield 116, 3) := by decide +kernel
theorem dX8_obeyGroup_239 : decode cX8_obeyGroup 239 = .ok (.iload_n 2, 1) := by decide +kernel
theorem dX8_obeyGroup_240 : decode cX8_obeyGroup 240 = .ok (.invokestatic 159, 3) := by decide +kernel
theorem dX8_obeyGroup_243 : decode cX8_obeyGroup 243 = .ok (.iload 4, 2) := by decide +kernel
theorem dX8_obeyGroup_245 : decode cX8_obeyGroup 245 = .ok (.if_icmp .ne 7, 3) := by decide +kernel
theorem dX8_obeyGroup_248 : decode cX8_obeyGroup 248 = .ok (.iconst 1, 1) := by decide +kernel
theorem dX8_obeyGroup_249 : decode cX8_obeyGroup 249 = .ok (.goto 4, 3) := by decide +kernel
theorem dX8_obeyGroup_252 : decode cX8_obeyGroup 252 = .ok (.iconst 0, 1) := by decide +kernel
theorem dX8_obeyGroup_253 : decode cX8_obeyGroup 253 = .ok (.ireturn, 1) := by decide +kernel
theorem dX8_obeyGroup_254 : decode cX8_obeyGroup 254 = .ok (.iload_n 2, 1) := by decide +kernel
theorem dX8_obeyGroup_255 : decode cX8_obeyGroup 255 = .ok (.ifCond .ne 28, 3) := by decide +kernel
theorem dX8_obeyGroup_258 : decode cX8_obeyGroup 258 = .ok (.aload_n 0, 1) := by decide +kernel
theorem dX8_obeyGroup_259 : decode cX8_obeyGroup 259 = .ok (.aload_n 0, 1) := by decide +kernel
theorem dX8_obeyGroup_260 : decode cX8_obeyGroup 260 = .ok (.getfield 16, 3) := by decide +kernel
theorem dX8_obeyGroup_263 : decode cX8_obeyGroup 263 = .ok (.aload_n 0, 1) := by decide +kernel
theorem dX8_obeyGroup_264 : decode cX8_obeyGroup 264 = .ok (.getfield 16, 3) := by decide +kernel
theorem dX8_obeyGroup_267 : decode cX8_obeyGroup 267 = .ok (.getfield 116, 3) := by decide +kernel
theorem dX8_obeyGroup_270 : decode cX8_obeyGroup 270 = .ok (.invokevirtual 260, 3) := by decide +kernel
theorem dX8_obeyGroup_273 : decode cX8_obeyGroup 273 = .ok (.iload 5, 2) := by decide +kernel
theorem dX8_obeyGroup_275 : decode cX8_obeyGroup 275 = .ok (.ineg, 1) := by decide +kernel
theorem dX8_obeyGroup_276 : decode cX8_obeyGroup 276 = .ok (.if_icmp .lt 7, 3) := by decide +kernel
theorem dX8_obeyGroup_279 : decode cX8_obeyGroup 279 = .ok (.iconst 1, 1) := by decide +kernel
theorem dX8_obeyGroup_280 : decode cX8_obeyGroup 280 = .ok (.goto 4, 3) := by decide +kernel
theorem dX8_obeyGroup_283 : decode cX8_obeyGroup 283 = .ok (.iconst 0, 1) := by decide +kernel
theorem dX8_obeyGroup_284 : decode cX8_obeyGroup 284 = .ok (.ireturn, 1) := by decide +kernel
theorem dX8_obeyGroup_285 : decode cX8_obeyGroup 285 = .ok (.iload_n 2, 1) := by decide +kernel
theorem dX8_obeyGroup_286 : decode cX8_obeyGroup 286 = .ok (.ifCond .ne 24, 3) := by decide +kernel
theorem dX8_obeyGroup_289 : decode cX8_obeyGroup 289 = .ok (.iload_n 3, 1) := by decide +kernel
theorem dX8_obeyGroup_290 : decode cX8_obeyGroup 290 = .ok (.ifCond .ne 20, 3) := by decide +kernel
theorem dX8_obeyGroup_293 : decode cX8_obeyGroup 293 = .ok (.aload_n 0, 1) := by decide +kernel
theorem dX8_obeyGroup_294 : decode cX8_obeyGroup 294 = .ok (.aload_n 0, 1) := by decide +kernel
theorem dX8_obeyGroup_295 : decode cX8_obeyGroup 295 = .ok (.getfield 16, 3) := by decide +kernel
theorem dX8_obeyGroup_298 : decode cX8_obeyGroup 298 = .ok (.invokevirtual 275, 3) := by decide +kernel
theorem dX8_obeyGroup_301 : decode cX8_obeyGroup 301 = .ok (.iload 4, 2) := by decide +kernel
theorem dX8_obeyGroup_303 : decode cX8_obeyGroup 303 = .ok (.if_icmp .ne 7, 3) := by decide +kernel
theorem dX8_obeyGroup_306 : decode cX8_obeyGroup 306 = .ok (.iconst 1, 1) := by decide +kernel
theorem dX8_obeyGroup_307 : decode cX8_obeyGroup 307 = .ok (.goto 4, 3) := by decide +kernel
theorem dX8_obeyGroup_310 : decode cX8_obeyGroup 310 = .ok (.iconst 0, 1) := by decide +kernel
theorem dX8_obeyGroup_311 : decode cX8_obeyGroup 311 = .ok (.ireturn, 1) := by decide +kernel
theorem dX8_obeyGroup_312 : decode cX8_obeyGroup 312 = .ok (.iconst 0, 1) := by decide +kernel
theorem dX8_obeyGroup_313 : decode cX8_obeyGroup 313 = .ok (.ireturn, 1) := by decide +kernel
theorem dX8_simulate_0 : decode cX8_simulate 0 = .ok (.iload_n 3, 1) := by decide +kernel
theorem dX8_simulate_1 : decode cX8_simulate 1 = .ok (.iconst 1, 1) := by decide +kernel
theorem dX8_simulate_2 : decode cX8_simulate 2 = .ok (.if_icmp .lt 9, 3) := by decide +kernel
theorem dX8_simulate_5 : decode cX8_simulate 5 = .ok (.iload_n 3, 1) := by decide +kernel
theorem dX8_simulate_6 : decode cX8_simulate 6 = .ok (.bipush 60, 2) := by decide +kernel
theorem dX8_simulate_8 : decode cX8_simulate 8 = .ok (.if_icmp .le 14, 3) := by decide +kernel
theorem dX8_simulate_11 : decode cX8_simulate 11 = .ok (.new 44, 3) := by decide +kernel
theorem dX8_simulate_14 : decode cX8_simulate 14 = .ok (.dup, 1) := by decide +kernel
theorem dX8_simulate_15 : decode cX8_simulate 15 = .ok (.ldc_w 301, 3) := by decide +kernel
theorem dX8_simulate_18 : decode cX8_simulate 18 = .ok (.invokespecial 48, 3) := by decide +kernel
theorem dX8_simulate_21 : decode cX8_simulate 21 = .ok (.athrow, 1) := by decide +kernel
theorem dX8_simulate_22 : decode cX8_simulate 22 = .ok (.aload_n 0, 1) := by decide +kernel
theorem dX8_simulate_23 : decode cX8_simulate 23 = .ok (.getfield 16, 3) := by decide +kernel
theorem dX8_simulate_26 : decode cX8_simulate 26 = .ok (.aload_n 0, 1) := by decide +kernel
theorem dX8_simulate_27 : decode cX8_simulate 27 = .ok (.getfield 12, 3) := by decide +kernel
theorem dX8_simulate_30 : decode cX8_simulate 30 = .ok (.invokevirtual 290, 3) := by decide +kernel
theorem dX8_simulate_33 : decode cX8_simulate 33 = .ok (.lload_n 1, 1) := by decide +kernel
theorem dX8_simulate_34 : decode cX8_simulate 34 = .ok (.lstore 4, 2) := by decide +kernel
theorem dX8_simulate_36 : decode cX8_simulate 36 = .ok (.iconst 0, 1) := by decide +kernel
theorem dX8_simulate_37 : decode cX8_simulate 37 = .ok (.istore 6, 2) := by decide +kernel
theorem dX8_simulate_39 : decode cX8_simulate 39 = .ok (.iload 6, 2) := by decide +kernel
theorem dX8_simulate_41 : decode cX8_simulate 41 = .ok (.iload_n 3, 1) := by decide +kernel
theorem dX8_simulate_42 : decode cX8_simulate 42 = .ok (.if_icmp .ge 31, 3) := by decide +kernel
theorem dX8_simulate_45 : decode cX8_simulate 45 = .ok (.lload 4, 2) := by decide +kernel
theorem dX8_simulate_47 : decode cX8_simulate 47 = .ok (.ldc2_w 303, 3) := by decide +kernel
theorem dX8_simulate_50 : decode cX8_simulate 50 = .ok (.lmul, 1) := by decide +kernel
theorem dX8_simulate_51 : decode cX8_simulate 51 = .ok (.ldc2_w 305, 3) := by decide +kernel
theorem dX8_simulate_54 : decode cX8_simulate 54 = .ok (.ladd, 1) := by decide +kernel
theorem dX8_simulate_55 : decode cX8_simulate 55 = .ok (.lstore 4, 2) := by decide +kernel
theorem dX8_simulate_57 : decode cX8_simulate 57 = .ok (.aload_n 0, 1) := by decide +kernel
theorem dX8_simulate_58 : decode cX8_simulate 58 = .ok (.lload 4, 2) := by decide +kernel
theorem dX8_simulate_60 : decode cX8_simulate 60 = .ok (.bipush 33, 2) := by decide +kernel
theorem dX8_simulate_62 : decode cX8_simulate 62 = .ok (.lushr, 1) := by decide +kernel
theorem dX8_simulate_63 : decode cX8_simulate 63 = .ok (.l2i, 1) := by decide +kernel
theorem dX8_simulate_64 : decode cX8_simulate 64 = .ok (.invokevirtual 307, 3) := by decide +kernel
theorem dX8_simulate_67 : decode cX8_simulate 67 = .ok (.iinc 6 1, 3) := by decide +kernel
theorem dX8_simulate_70 : decode cX8_simulate 70 = .ok (.goto (-31), 3) := by decide +kernel
theorem dX8_simulate_73 : decode cX8_simulate 73 = .ok (.aload_n 0, 1) := by decide +kernel
theorem dX8_simulate_74 : decode cX8_simulate 74 = .ok (.getfield 16, 3) := by decide +kernel
theorem dX8_simulate_77 : decode cX8_simulate 77 = .ok (.invokevirtual 137, 3) := by decide +kernel
theorem dX8_simulate_80 : decode cX8_simulate 80 = .ok (.aload_n 0, 1) := by decide +kernel
theorem dX8_simulate_81 : decode cX8_simulate 81 = .ok (.getfield 12, 3) := by decide +kernel
theorem dX8_simulate_84 : decode cX8_simulate 84 = .ok (.invokevirtual 137, 3) := by decide +kernel
theorem dX8_simulate_87 : decode cX8_simulate 87 = .ok (.isub, 1) := by decide +kernel
theorem dX8_simulate_88 : decode cX8_simulate 88 = .ok (.istore 6, 2) := by decide +kernel
theorem dX8_simulate_90 : decode cX8_simulate 90 = .ok (.aload_n 0, 1) := by decide +kernel
theorem dX8_simulate_91 : decode cX8_simulate 91 = .ok (.getfield 16, 3) := by decide +kernel
theorem dX8_simulate_94 : decode cX8_simulate 94 = .ok (.invokevirtual 310, 3) := by decide +kernel
theorem dX8_simulate_97 : decode cX8_simulate 97 = .ok (.aload_n 0, 1) := by decide +kernel
theorem dX8_simulate_98 : decode cX8_simulate 98 = .ok (.getfield 12, 3) := by decide +kernel
theorem dX8_simulate_101 : decode cX8_simulate 101 = .ok (.invokevirtual 310, 3) := by decide +kernel
theorem dX8_simulate_104 : decode cX8_simulate 104 = .ok (.isub, 1) := by decide +kernel
theorem dX8_simulate_105 : decode cX8_simulate 105 = .ok (.istore 7, 2) := by decide +kernel
theorem dX8_simulate_107 : decode cX8_simulate 107 = .ok (.sipush 10000, 3) := by decide +kernel
theorem dX8_simulate_110 : decode cX8_simulate 110 = .ok (.iload 6, 2) := by decide +kernel
theorem dX8_simulate_112 : decode cX8_simulate 112 = .ok (.imul, 1) := by decide +kernel
theorem dX8_simulate_113 : decode cX8_simulate 113 = .ok (.iload 7, 2) := by decide +kernel
theorem dX8_simulate_115 : decode cX8_simulate 115 = .ok (.sipush 9999, 3) := by decide +kernel
theorem dX8_simulate_118 : decode cX8_simulate 118 = .ok (.invokestatic 313, 3) := by decide +kernel
theorem dX8_simulate_121 : decode cX8_simulate 121 = .ok (.iadd, 1) := by decide +kernel
theorem dX8_simulate_122 : decode cX8_simulate 122 = .ok (.ireturn, 1) := by decide +kernel
theorem dX8_simulateTurn_0 : decode cX8_simulateTurn 0 = .ok (.iload_n 1, 1) := by decide +kernel
theorem dX8_simulateTurn_1 : decode cX8_simulateTurn 1 = .ok (.bipush 8, 2) := by decide +kernel
theorem dX8_simulateTurn_3 : decode cX8_simulateTurn 3 = .ok (.idiv, 1) := by decide +kernel
theorem dX8_simulateTurn_4 : decode cX8_simulateTurn 4 = .ok (.istore_n 2, 1) := by decide +kernel
theorem dX8_simulateTurn_5 : decode cX8_simulateTurn 5 = .ok (.iload_n 1, 1) := by decide +kernel
theorem dX8_simulateTurn_6 : decode cX8_simulateTurn 6 = .ok (.bipush 8, 2) := by decide +kernel
theorem dX8_simulateTurn_8 : decode cX8_simulateTurn 8 = .ok (.irem, 1) := by decide +kernel
theorem dX8_simulateTurn_9 : decode cX8_simulateTurn 9 = .ok (.tableswitch 88 0 2 #[27, 42, 56], 27) := by decide +kernel
theorem dX8_simulateTurn_36 : decode cX8_simulateTurn 36 = .ok (.aload_n 0, 1) := by decide +kernel
theorem dX8_simulateTurn_37 : decode cX8_simulateTurn 37 = .ok (.getfield 16, 3) := by decide +kernel
theorem dX8_simulateTurn_40 : decode cX8_simulateTurn 40 = .ok (.iload_n 2, 1) := by decide +kernel
theorem dX8_simulateTurn_41 : decode cX8_simulateTurn 41 = .ok (.bipush 6, 2) := by decide +kernel
theorem dX8_simulateTurn_43 : decode cX8_simulateTurn 43 = .ok (.irem, 1) := by decide +kernel
theorem dX8_simulateTurn_44 : decode cX8_simulateTurn 44 = .ok (.invokevirtual 101, 3) := by decide +kernel
theorem dX8_simulateTurn_47 : decode cX8_simulateTurn 47 = .ok (.pop, 1) := by decide +kernel
theorem dX8_simulateTurn_48 : decode cX8_simulateTurn 48 = .ok (.goto 80, 3) := by decide +kernel
theorem dX8_simulateTurn_51 : decode cX8_simulateTurn 51 = .ok (.aload_n 0, 1) := by decide +kernel
theorem dX8_simulateTurn_52 : decode cX8_simulateTurn 52 = .ok (.getfield 16, 3) := by decide +kernel
theorem dX8_simulateTurn_55 : decode cX8_simulateTurn 55 = .ok (.iload_n 2, 1) := by decide +kernel
theorem dX8_simulateTurn_56 : decode cX8_simulateTurn 56 = .ok (.iconst 3, 1) := by decide +kernel
theorem dX8_simulateTurn_57 : decode cX8_simulateTurn 57 = .ok (.irem, 1) := by decide +kernel
theorem dX8_simulateTurn_58 : decode cX8_simulateTurn 58 = .ok (.invokevirtual 104, 3) := by decide +kernel
theorem dX8_simulateTurn_61 : decode cX8_simulateTurn 61 = .ok (.pop, 1) := by decide +kernel
theorem dX8_simulateTurn_62 : decode cX8_simulateTurn 62 = .ok (.goto 66, 3) := by decide +kernel
theorem dX8_simulateTurn_65 : decode cX8_simulateTurn 65 = .ok (.iload_n 2, 1) := by decide +kernel
theorem dX8_simulateTurn_66 : decode cX8_simulateTurn 66 = .ok (.iconst 4, 1) := by decide +kernel
theorem dX8_simulateTurn_67 : decode cX8_simulateTurn 67 = .ok (.irem, 1) := by decide +kernel
theorem dX8_simulateTurn_68 : decode cX8_simulateTurn 68 = .ok (.ifCond .ne 13, 3) := by decide +kernel
theorem dX8_simulateTurn_71 : decode cX8_simulateTurn 71 = .ok (.aload_n 0, 1) := by decide +kernel
theorem dX8_simulateTurn_72 : decode cX8_simulateTurn 72 = .ok (.getfield 16, 3) := by decide +kernel
theorem dX8_simulateTurn_75 : decode cX8_simulateTurn 75 = .ok (.invokevirtual 107, 3) := by decide +kernel
theorem dX8_simulateTurn_78 : decode cX8_simulateTurn 78 = .ok (.goto 50, 3) := by decide +kernel
theorem dX8_simulateTurn_81 : decode cX8_simulateTurn 81 = .ok (.aload_n 0, 1) := by decide +kernel
theorem dX8_simulateTurn_82 : decode cX8_simulateTurn 82 = .ok (.getfield 16, 3) := by decide +kernel
theorem dX8_simulateTurn_85 : decode cX8_simulateTurn 85 = .ok (.iconst 1, 1) := by decide +kernel
theorem dX8_simulateTurn_86 : decode cX8_simulateTurn 86 = .ok (.iload_n 2, 1) := by decide +kernel
theorem dX8_simulateTurn_87 : decode cX8_simulateTurn 87 = .ok (.bipush 9, 2) := by decide +kernel
theorem dX8_simulateTurn_89 : decode cX8_simulateTurn 89 = .ok (.irem, 1) := by decide +kernel
theorem dX8_simulateTurn_90 : decode cX8_simulateTurn 90 = .ok (.iadd, 1) := by decide +kernel
theorem dX8_simulateTurn_91 : decode cX8_simulateTurn 91 = .ok (.putfield 189, 3) := by decide +kernel
theorem dX8_simulateTurn_94 : decode cX8_simulateTurn 94 = .ok (.goto 34, 3) := by decide +kernel
theorem dX8_simulateTurn_97 : decode cX8_simulateTurn 97 = .ok (.aload_n 0, 1) := by decide +kernel
theorem dX8_simulateTurn_98 : decode cX8_simulateTurn 98 = .ok (.getfield 16, 3) := by decide +kernel
theorem dX8_simulateTurn_101 : decode cX8_simulateTurn 101 = .ok (.iload_n 2, 1) := by decide +kernel
theorem dX8_simulateTurn_102 : decode cX8_simulateTurn 102 = .ok (.bipush 6, 2) := by decide +kernel
theorem dX8_simulateTurn_104 : decode cX8_simulateTurn 104 = .ok (.irem, 1) := by decide +kernel
theorem dX8_simulateTurn_105 : decode cX8_simulateTurn 105 = .ok (.iload_n 2, 1) := by decide +kernel
theorem dX8_simulateTurn_106 : decode cX8_simulateTurn 106 = .ok (.bipush 6, 2) := by decide +kernel
theorem dX8_simulateTurn_108 : decode cX8_simulateTurn 108 = .ok (.irem, 1) := by decide +kernel
theorem dX8_simulateTurn_109 : decode cX8_simulateTurn 109 = .ok (.iload_n 2, 1) := by decide +kernel
theorem dX8_simulateTurn_110 : decode cX8_simulateTurn 110 = .ok (.bipush 8, 2) := by decide +kernel
theorem dX8_simulateTurn_112 : decode cX8_simulateTurn 112 = .ok (.idiv, 1) := by decide +kernel
theorem dX8_simulateTurn_113 : decode cX8_simulateTurn 113 = .ok (.iconst 3, 1) := by decide +kernel
theorem dX8_simulateTurn_114 : decode cX8_simulateTurn 114 = .ok (.irem, 1) := by decide +kernel
theorem dX8_simulateTurn_115 : decode cX8_simulateTurn 115 = .ok (.iadd, 1) := by decide +kernel
theorem dX8_simulateTurn_116 : decode cX8_simulateTurn 116 = .ok (.iconst 1, 1) := by decide +kernel
theorem dX8_simulateTurn_117 : decode cX8_simulateTurn 117 = .ok (.iload_n 2, 1) := by decide +kernel
theorem dX8_simulateTurn_118 : decode cX8_simulateTurn 118 = .ok (.bipush 32, 2) := by decide +kernel
theorem dX8_simulateTurn_120 : decode cX8_simulateTurn 120 = .ok (.idiv, 1) := by decide +kernel
theorem dX8_simulateTurn_121 : decode cX8_simulateTurn 121 = .ok (.iconst 3, 1) := by decide +kernel
theorem dX8_simulateTurn_122 : decode cX8_simulateTurn 122 = .ok (.irem, 1) := by decide +kernel
theorem dX8_simulateTurn_123 : decode cX8_simulateTurn 123 = .ok (.iadd, 1) := by decide +kernel
theorem dX8_simulateTurn_124 : decode cX8_simulateTurn 124 = .ok (.invokevirtual 97, 3) := by decide +kernel
theorem dX8_simulateTurn_127 : decode cX8_simulateTurn 127 = .ok (.pop, 1) := by decide +kernel
theorem dX8_simulateTurn_128 : decode cX8_simulateTurn 128 = .ok (.return_, 1) := by decide +kernel
theorem dX8_save_0 : decode cX8_save 0 = .ok (.iload_n 1, 1) := by decide +kernel
theorem dX8_save_1 : decode cX8_save 1 = .ok (.ifCond .lt 12, 3) := by decide +kernel
theorem dX8_save_4 : decode cX8_save 4 = .ok (.iload_n 1, 1) := by decide +kernel
theorem dX8_save_5 : decode cX8_save 5 = .ok (.aload_n 0, 1) := by decide +kernel
theorem dX8_save_6 : decode cX8_save 6 = .ok (.getfield 26, 3) := by decide +kernel
theorem dX8_save_9 : decode cX8_save 9 = .ok (.arraylength, 1) := by decide +kernel
theorem dX8_save_10 : decode cX8_save 10 = .ok (.if_icmp .lt 14, 3) := by decide +kernel
theorem dX8_save_13 : decode cX8_save 13 = .ok (.new 166, 3) := by decide +kernel
theorem dX8_save_16 : decode cX8_save 16 = .ok (.dup, 1) := by decide +kernel
theorem dX8_save_17 : decode cX8_save 17 = .ok (.ldc_w 318, 3) := by decide +kernel
theorem dX8_save_20 : decode cX8_save 20 = .ok (.invokespecial 170, 3) := by decide +kernel
theorem dX8_save_23 : decode cX8_save 23 = .ok (.athrow, 1) := by decide +kernel
theorem dX8_save_24 : decode cX8_save 24 = .ok (.aload_n 0, 1) := by decide +kernel
theorem dX8_save_25 : decode cX8_save 25 = .ok (.getfield 26, 3) := by decide +kernel
theorem dX8_save_28 : decode cX8_save 28 = .ok (.iload_n 1, 1) := by decide +kernel
theorem dX8_save_29 : decode cX8_save 29 = .ok (.aaload, 1) := by decide +kernel
theorem dX8_save_30 : decode cX8_save 30 = .ok (.astore_n 2, 1) := by decide +kernel
theorem dX8_save_31 : decode cX8_save 31 = .ok (.aload_n 2, 1) := by decide +kernel
theorem dX8_save_32 : decode cX8_save 32 = .ok (.ifnonnull 18, 3) := by decide +kernel
theorem dX8_save_35 : decode cX8_save 35 = .ok (.new 9, 3) := by decide +kernel
theorem dX8_save_38 : decode cX8_save 38 = .ok (.dup, 1) := by decide +kernel
theorem dX8_save_39 : decode cX8_save 39 = .ok (.invokespecial 11, 3) := by decide +kernel
theorem dX8_save_42 : decode cX8_save 42 = .ok (.astore_n 2, 1) := by decide +kernel
theorem dX8_save_43 : decode cX8_save 43 = .ok (.aload_n 0, 1) := by decide +kernel
theorem dX8_save_44 : decode cX8_save 44 = .ok (.getfield 26, 3) := by decide +kernel
theorem dX8_save_47 : decode cX8_save 47 = .ok (.iload_n 1, 1) := by decide +kernel
theorem dX8_save_48 : decode cX8_save 48 = .ok (.aload_n 2, 1) := by decide +kernel
theorem dX8_save_49 : decode cX8_save 49 = .ok (.aastore, 1) := by decide +kernel
theorem dX8_save_50 : decode cX8_save 50 = .ok (.aload_n 2, 1) := by decide +kernel
theorem dX8_save_51 : decode cX8_save 51 = .ok (.aload_n 0, 1) := by decide +kernel
theorem dX8_save_52 : decode cX8_save 52 = .ok (.getfield 12, 3) := by decide +kernel
theorem dX8_save_55 : decode cX8_save 55 = .ok (.invokevirtual 290, 3) := by decide +kernel
theorem dX8_save_58 : decode cX8_save 58 = .ok (.aload_n 0, 1) := by decide +kernel
theorem dX8_save_59 : decode cX8_save 59 = .ok (.getfield 12, 3) := by decide +kernel
theorem dX8_save_62 : decode cX8_save 62 = .ok (.invokevirtual 137, 3) := by decide +kernel
theorem dX8_save_65 : decode cX8_save 65 = .ok (.ireturn, 1) := by decide +kernel
theorem dX8_restore_0 : decode cX8_restore 0 = .ok (.iload_n 1, 1) := by decide +kernel
theorem dX8_restore_1 : decode cX8_restore 1 = .ok (.ifCond .lt 12, 3) := by decide +kernel
theorem dX8_restore_4 : decode cX8_restore 4 = .ok (.iload_n 1, 1) := by decide +kernel
theorem dX8_restore_5 : decode cX8_restore 5 = .ok (.aload_n 0, 1) := by decide +kernel
theorem dX8_restore_6 : decode cX8_restore 6 = .ok (.getfield 26, 3) := by decide +kernel
theorem dX8_restore_9 : decode cX8_restore 9 = .ok (.arraylength, 1) := by decide +kernel
theorem dX8_restore_10 : decode cX8_restore 10 = .ok (.if_icmp .lt 14, 3) := by decide +kernel
theorem dX8_restore_13 : decode cX8_restore 13 = .ok (.new 166, 3) := by decide +kernel
theorem dX8_restore_16 : decode cX8_restore 16 = .ok (.dup, 1) := by decide +kernel
theorem dX8_restore_17 : decode cX8_restore 17 = .ok (.ldc_w 318, 3) := by decide +kernel
theorem dX8_restore_20 : decode cX8_restore 20 = .ok (.invokespecial 170, 3) := by decide +kernel
theorem dX8_restore_23 : decode cX8_restore 23 = .ok (.athrow, 1) := by decide +kernel
theorem dX8_restore_24 : decode cX8_restore 24 = .ok (.aload_n 0, 1) := by decide +kernel
theorem dX8_restore_25 : decode cX8_restore 25 = .ok (.getfield 26, 3) := by decide +kernel
theorem dX8_restore_28 : decode cX8_restore 28 = .ok (.iload_n 1, 1) := by decide +kernel
theorem dX8_restore_29 : decode cX8_restore 29 = .ok (.aaload, 1) := by decide +kernel
theorem dX8_restore_30 : decode cX8_restore 30 = .ok (.astore_n 2, 1) := by decide +kernel
theorem dX8_restore_31 : decode cX8_restore 31 = .ok (.aload_n 2, 1) := by decide +kernel
theorem dX8_restore_32 : decode cX8_restore 32 = .ok (.ifnonnull 14, 3) := by decide +kernel
theorem dX8_restore_35 : decode cX8_restore 35 = .ok (.new 55, 3) := by decide +kernel
theorem dX8_restore_38 : decode cX8_restore 38 = .ok (.dup, 1) := by decide +kernel
theorem dX8_restore_39 : decode cX8_restore 39 = .ok (.ldc_w 320, 3) := by decide +kernel
theorem dX8_restore_42 : decode cX8_restore 42 = .ok (.invokespecial 59, 3) := by decide +kernel
theorem dX8_restore_45 : decode cX8_restore 45 = .ok (.athrow, 1) := by decide +kernel
theorem dX8_restore_46 : decode cX8_restore 46 = .ok (.aload_n 0, 1) := by decide +kernel
theorem dX8_restore_47 : decode cX8_restore 47 = .ok (.getfield 12, 3) := by decide +kernel
theorem dX8_restore_50 : decode cX8_restore 50 = .ok (.aload_n 2, 1) := by decide +kernel
theorem dX8_restore_51 : decode cX8_restore 51 = .ok (.invokevirtual 290, 3) := by decide +kernel
theorem dX8_restore_54 : decode cX8_restore 54 = .ok (.aload_n 0, 1) := by decide +kernel
theorem dX8_restore_55 : decode cX8_restore 55 = .ok (.getfield 22, 3) := by decide +kernel
theorem dX8_restore_58 : decode cX8_restore 58 = .ok (.invokevirtual 80, 3) := by decide +kernel
theorem dX8_restore_61 : decode cX8_restore 61 = .ok (.aload_n 0, 1) := by decide +kernel
theorem dX8_restore_62 : decode cX8_restore 62 = .ok (.getfield 12, 3) := by decide +kernel
theorem dX8_restore_65 : decode cX8_restore 65 = .ok (.invokevirtual 137, 3) := by decide +kernel
theorem dX8_restore_68 : decode cX8_restore 68 = .ok (.ireturn, 1) := by decide +kernel
theorem dX8_requireStem_0 : decode cX8_requireStem 0 = .ok (.aload_n 0, 1) := by decide +kernel
theorem dX8_requireStem_1 : decode cX8_requireStem 1 = .ok (.getfield 12, 3) := by decide +kernel
theorem dX8_requireStem_4 : decode cX8_requireStem 4 = .ok (.iload_n 1, 1) := by decide +kernel
theorem dX8_requireStem_5 : decode cX8_requireStem 5 = .ok (.invokevirtual 298, 3) := by decide +kernel
theorem dX8_requireStem_8 : decode cX8_requireStem 8 = .ok (.ifCond .ne 14, 3) := by decide +kernel
theorem dX8_requireStem_11 : decode cX8_requireStem 11 = .ok (.new 166, 3) := by decide +kernel
theorem dX8_requireStem_14 : decode cX8_requireStem 14 = .ok (.dup, 1) := by decide +kernel
theorem dX8_requireStem_15 : decode cX8_requireStem 15 = .ok (.ldc_w 322, 3) := by decide +kernel
theorem dX8_requireStem_18 : decode cX8_requireStem 18 = .ok (.invokespecial 170, 3) := by decide +kernel
theorem dX8_requireStem_21 : decode cX8_requireStem 21 = .ok (.athrow, 1) := by decide +kernel
theorem dX8_requireStem_22 : decode cX8_requireStem 22 = .ok (.return_, 1) := by decide +kernel
theorem dX8_requireClip_0 : decode cX8_requireClip 0 = .ok (.aload_n 0, 1) := by decide +kernel
theorem dX8_requireClip_1 : decode cX8_requireClip 1 = .ok (.iload_n 1, 1) := by decide +kernel
theorem dX8_requireClip_2 : decode cX8_requireClip 2 = .ok (.invokevirtual 155, 3) := by decide +kernel
theorem dX8_requireClip_5 : decode cX8_requireClip 5 = .ok (.aload_n 0, 1) := by decide +kernel
theorem dX8_requireClip_6 : decode cX8_requireClip 6 = .ok (.iload_n 2, 1) := by decide +kernel
theorem dX8_requireClip_7 : decode cX8_requireClip 7 = .ok (.invokevirtual 155, 3) := by decide +kernel
theorem dX8_requireClip_10 : decode cX8_requireClip 10 = .ok (.aload_n 0, 1) := by decide +kernel
theorem dX8_requireClip_11 : decode cX8_requireClip 11 = .ok (.getfield 12, 3) := by decide +kernel
theorem dX8_requireClip_14 : decode cX8_requireClip 14 = .ok (.iload_n 1, 1) := by decide +kernel
theorem dX8_requireClip_15 : decode cX8_requireClip 15 = .ok (.iload_n 2, 1) := by decide +kernel
theorem dX8_requireClip_16 : decode cX8_requireClip 16 = .ok (.iload_n 3, 1) := by decide +kernel
theorem dX8_requireClip_17 : decode cX8_requireClip 17 = .ok (.invokevirtual 324, 3) := by decide +kernel
theorem dX8_requireClip_20 : decode cX8_requireClip 20 = .ok (.ifCond .ne 14, 3) := by decide +kernel
theorem dX8_requireClip_23 : decode cX8_requireClip 23 = .ok (.new 44, 3) := by decide +kernel
theorem dX8_requireClip_26 : decode cX8_requireClip 26 = .ok (.dup, 1) := by decide +kernel
theorem dX8_requireClip_27 : decode cX8_requireClip 27 = .ok (.ldc_w 327, 3) := by decide +kernel
theorem dX8_requireClip_30 : decode cX8_requireClip 30 = .ok (.invokespecial 48, 3) := by decide +kernel
theorem dX8_requireClip_33 : decode cX8_requireClip 33 = .ok (.athrow, 1) := by decide +kernel
theorem dX8_requireClip_34 : decode cX8_requireClip 34 = .ok (.return_, 1) := by decide +kernel
theorem dX8_requireSetting_0 : decode cX8_requireSetting 0 = .ok (.iload_n 0, 1) := by decide +kernel
theorem dX8_requireSetting_1 : decode cX8_requireSetting 1 = .ok (.ifCond .lt 8, 3) := by decide +kernel
theorem dX8_requireSetting_4 : decode cX8_requireSetting 4 = .ok (.iload_n 0, 1) := by decide +kernel
theorem dX8_requireSetting_5 : decode cX8_requireSetting 5 = .ok (.iconst 1, 1) := by decide +kernel
theorem dX8_requireSetting_6 : decode cX8_requireSetting 6 = .ok (.if_icmp .le 14, 3) := by decide +kernel
theorem dX8_requireSetting_9 : decode cX8_requireSetting 9 = .ok (.new 44, 3) := by decide +kernel
theorem dX8_requireSetting_12 : decode cX8_requireSetting 12 = .ok (.dup, 1) := by decide +kernel
theorem dX8_requireSetting_13 : decode cX8_requireSetting 13 = .ok (.ldc_w 329, 3) := by decide +kernel
theorem dX8_requireSetting_16 : decode cX8_requireSetting 16 = .ok (.invokespecial 48, 3) := by decide +kernel
theorem dX8_requireSetting_19 : decode cX8_requireSetting 19 = .ok (.athrow, 1) := by decide +kernel
theorem dX8_requireSetting_20 : decode cX8_requireSetting 20 = .ok (.return_, 1) := by decide +kernel
theorem dJ6_bitCount_0f7a4_0 : decode cJ6_bitCount_0f7a4 0 = .ok (.iload_n 0, 1) := by decide +kernel
theorem dJ6_bitCount_0f7a4_1 : decode cJ6_bitCount_0f7a4 1 = .ok (.iload_n 0, 1) := by decide +kernel
theorem dJ6_bitCount_0f7a4_2 : decode cJ6_bitCount_0f7a4 2 = .ok (.iconst 1, 1) := by decide +kernel
theorem dJ6_bitCount_0f7a4_3 : decode cJ6_bitCount_0f7a4 3 = .ok (.iushr, 1) := by decide +kernel
theorem dJ6_bitCount_0f7a4_4 : decode cJ6_bitCount_0f7a4 4 = .ok (.ldc_w 265, 3) := by decide +kernel
theorem dJ6_bitCount_0f7a4_7 : decode cJ6_bitCount_0f7a4 7 = .ok (.iand, 1) := by decide +kernel
theorem dJ6_bitCount_0f7a4_8 : decode cJ6_bitCount_0f7a4 8 = .ok (.isub, 1) := by decide +kernel
theorem dJ6_bitCount_0f7a4_9 : decode cJ6_bitCount_0f7a4 9 = .ok (.istore_n 0, 1) := by decide +kernel
theorem dJ6_bitCount_0f7a4_10 : decode cJ6_bitCount_0f7a4 10 = .ok (.iload_n 0, 1) := by decide +kernel
theorem dJ6_bitCount_0f7a4_11 : decode cJ6_bitCount_0f7a4 11 = .ok (.ldc_w 266, 3) := by decide +kernel
theorem dJ6_bitCount_0f7a4_14 : decode cJ6_bitCount_0f7a4 14 = .ok (.iand, 1) := by decide +kernel
theorem dJ6_bitCount_0f7a4_15 : decode cJ6_bitCount_0f7a4 15 = .ok (.iload_n 0, 1) := by decide +kernel
theorem dJ6_bitCount_0f7a4_16 : decode cJ6_bitCount_0f7a4 16 = .ok (.iconst 2, 1) := by decide +kernel
theorem dJ6_bitCount_0f7a4_17 : decode cJ6_bitCount_0f7a4 17 = .ok (.iushr, 1) := by decide +kernel
theorem dJ6_bitCount_0f7a4_18 : decode cJ6_bitCount_0f7a4 18 = .ok (.ldc_w 266, 3) := by decide +kernel
theorem dJ6_bitCount_0f7a4_21 : decode cJ6_bitCount_0f7a4 21 = .ok (.iand, 1) := by decide +kernel
theorem dJ6_bitCount_0f7a4_22 : decode cJ6_bitCount_0f7a4 22 = .ok (.iadd, 1) := by decide +kernel
theorem dJ6_bitCount_0f7a4_23 : decode cJ6_bitCount_0f7a4 23 = .ok (.istore_n 0, 1) := by decide +kernel
theorem dJ6_bitCount_0f7a4_24 : decode cJ6_bitCount_0f7a4 24 = .ok (.iload_n 0, 1) := by decide +kernel
theorem dJ6_bitCount_0f7a4_25 : decode cJ6_bitCount_0f7a4 25 = .ok (.iload_n 0, 1) := by decide +kernel
theorem dJ6_bitCount_0f7a4_26 : decode cJ6_bitCount_0f7a4 26 = .ok (.iconst 4, 1) := by decide +kernel
theorem dJ6_bitCount_0f7a4_27 : decode cJ6_bitCount_0f7a4 27 = .ok (.iushr, 1) := by decide +kernel
theorem dJ6_bitCount_0f7a4_28 : decode cJ6_bitCount_0f7a4 28 = .ok (.iadd, 1) := by decide +kernel
theorem dJ6_bitCount_0f7a4_29 : decode cJ6_bitCount_0f7a4 29 = .ok (.ldc_w 267, 3) := by decide +kernel
theorem dJ6_bitCount_0f7a4_32 : decode cJ6_bitCount_0f7a4 32 = .ok (.iand, 1) := by decide +kernel
theorem dJ6_bitCount_0f7a4_33 : decode cJ6_bitCount_0f7a4 33 = .ok (.istore_n 0, 1) := by decide +kernel
theorem dJ6_bitCount_0f7a4_34 : decode cJ6_bitCount_0f7a4 34 = .ok (.iload_n 0, 1) := by decide +kernel
theorem dJ6_bitCount_0f7a4_35 : decode cJ6_bitCount_0f7a4 35 = .ok (.iload_n 0, 1) := by decide +kernel
theorem dJ6_bitCount_0f7a4_36 : decode cJ6_bitCount_0f7a4 36 = .ok (.bipush 8, 2) := by decide +kernel
theorem dJ6_bitCount_0f7a4_38 : decode cJ6_bitCount_0f7a4 38 = .ok (.iushr, 1) := by decide +kernel
theorem dJ6_bitCount_0f7a4_39 : decode cJ6_bitCount_0f7a4 39 = .ok (.iadd, 1) := by decide +kernel
theorem dJ6_bitCount_0f7a4_40 : decode cJ6_bitCount_0f7a4 40 = .ok (.istore_n 0, 1) := by decide +kernel
theorem dJ6_bitCount_0f7a4_41 : decode cJ6_bitCount_0f7a4 41 = .ok (.iload_n 0, 1) := by decide +kernel
theorem dJ6_bitCount_0f7a4_42 : decode cJ6_bitCount_0f7a4 42 = .ok (.iload_n 0, 1) := by decide +kernel
theorem dJ6_bitCount_0f7a4_43 : decode cJ6_bitCount_0f7a4 43 = .ok (.bipush 16, 2) := by decide +kernel
theorem dJ6_bitCount_0f7a4_45 : decode cJ6_bitCount_0f7a4 45 = .ok (.iushr, 1) := by decide +kernel
theorem dJ6_bitCount_0f7a4_46 : decode cJ6_bitCount_0f7a4 46 = .ok (.iadd, 1) := by decide +kernel
theorem dJ6_bitCount_0f7a4_47 : decode cJ6_bitCount_0f7a4 47 = .ok (.istore_n 0, 1) := by decide +kernel
theorem dJ6_bitCount_0f7a4_48 : decode cJ6_bitCount_0f7a4 48 = .ok (.iload_n 0, 1) := by decide +kernel
theorem dJ6_bitCount_0f7a4_49 : decode cJ6_bitCount_0f7a4 49 = .ok (.bipush 63, 2) := by decide +kernel
theorem dJ6_bitCount_0f7a4_51 : decode cJ6_bitCount_0f7a4 51 = .ok (.iand, 1) := by decide +kernel
theorem dJ6_bitCount_0f7a4_52 : decode cJ6_bitCount_0f7a4 52 = .ok (.ireturn, 1) := by decide +kernel
theorem dJ9_max_7cf53_0 : decode cJ9_max_7cf53 0 = .ok (.iload_n 0, 1) := by decide +kernel
theorem dJ9_max_7cf53_1 : decode cJ9_max_7cf53 1 = .ok (.iload_n 1, 1) := by decide +kernel
theorem dJ9_max_7cf53_2 : decode cJ9_max_7cf53 2 = .ok (.if_icmp .lt 7, 3) := by decide +kernel
theorem dJ9_max_7cf53_5 : decode cJ9_max_7cf53 5 = .ok (.iload_n 0, 1) := by decide +kernel
theorem dJ9_max_7cf53_6 : decode cJ9_max_7cf53 6 = .ok (.goto 4, 3) := by decide +kernel
theorem dJ9_max_7cf53_9 : decode cJ9_max_7cf53 9 = .ok (.iload_n 1, 1) := by decide +kernel
theorem dJ9_max_7cf53_10 : decode cJ9_max_7cf53 10 = .ok (.ireturn, 1) := by decide +kernel
theorem dJ9_min_7cf53_0 : decode cJ9_min_7cf53 0 = .ok (.iload_n 0, 1) := by decide +kernel
theorem dJ9_min_7cf53_1 : decode cJ9_min_7cf53 1 = .ok (.iload_n 1, 1) := by decide +kernel
theorem dJ9_min_7cf53_2 : decode cJ9_min_7cf53 2 = .ok (.if_icmp .gt 7, 3) := by decide +kernel
theorem dJ9_min_7cf53_5 : decode cJ9_min_7cf53 5 = .ok (.iload_n 0, 1) := by decide +kernel
theorem dJ9_min_7cf53_6 : decode cJ9_min_7cf53 6 = .ok (.goto 4, 3) := by decide +kernel
theorem dJ9_min_7cf53_9 : decode cJ9_min_7cf53 9 = .ok (.iload_n 1, 1) := by decide +kernel
theorem dJ9_min_7cf53_10 : decode cJ9_min_7cf53 10 = .ok (.ireturn, 1) := by decide +kernel
end
section
theorem dL_would_0 : decode cL_would 0 = .ok (.aload_n 0, 1) := by decide +kernel
theorem dL_would_1 : decode cL_would 1 = .ok (.iload_n 1, 1) := by decide +kernel
theorem dL_would_2 : decode cL_would 2 = .ok (.iload_n 2, 1) := by decide +kernel
theorem dL_would_3 : decode cL_would 3 = .ok (.iload_n 3, 1) := by decide +kernel
theorem dL_would_4 : decode cL_would 4 = .ok (.iload 4, 2) := by decide +kernel
theorem dL_would_6 : decode cL_would 6 = .ok (.invokevirtual 7, 3) := by decide +kernel
theorem dL_would_9 : decode cL_would 9 = .ok (.ireturn, 1) := by decide +kernel
theorem dL_would_10 : decode cL_would 10 = .ok (.astore 5, 2) := by decide +kernel
theorem dL_would_12 : decode cL_would 12 = .ok (.ldc 15, 2) := by decide +kernel
theorem dL_would_14 : decode cL_would 14 = .ok (.ireturn, 1) := by decide +kernel
theorem dL_would_15 : decode cL_would 15 = .ok (.astore 5, 2) := by decide +kernel
theorem dL_would_17 : decode cL_would 17 = .ok (.ldc 18, 2) := by decide +kernel
theorem dL_would_19 : decode cL_would 19 = .ok (.ireturn, 1) := by decide +kernel
theorem dL_doScript_0 : decode cL_doScript 0 = .ok (.aload_n 0, 1) := by decide +kernel
theorem dL_doScript_1 : decode cL_doScript 1 = .ok (.iload_n 1, 1) := by decide +kernel
theorem dL_doScript_2 : decode cL_doScript 2 = .ok (.lload_n 2, 1) := by decide +kernel
theorem dL_doScript_3 : decode cL_doScript 3 = .ok (.invokevirtual 19, 3) := by decide +kernel
theorem dL_doScript_6 : decode cL_doScript 6 = .ok (.ireturn, 1) := by decide +kernel
theorem dL_doScript_7 : decode cL_doScript 7 = .ok (.astore 4, 2) := by decide +kernel
theorem dL_doScript_9 : decode cL_doScript 9 = .ok (.ldc 18, 2) := by decide +kernel
theorem dL_doScript_11 : decode cL_doScript 11 = .ok (.ireturn, 1) := by decide +kernel
theorem dL_doSimulate_0 : decode cL_doSimulate 0 = .ok (.aload_n 0, 1) := by decide +kernel
theorem dL_doSimulate_1 : decode cL_doSimulate 1 = .ok (.lload_n 1, 1) := by decide +kernel
theorem dL_doSimulate_2 : decode cL_doSimulate 2 = .ok (.iload_n 3, 1) := by decide +kernel
theorem dL_doSimulate_3 : decode cL_doSimulate 3 = .ok (.invokevirtual 23, 3) := by decide +kernel
theorem dL_doSimulate_6 : decode cL_doSimulate 6 = .ok (.ireturn, 1) := by decide +kernel
theorem dL_doSimulate_7 : decode cL_doSimulate 7 = .ok (.astore 4, 2) := by decide +kernel
theorem dL_doSimulate_9 : decode cL_doSimulate 9 = .ok (.ldc 18, 2) := by decide +kernel
theorem dL_doSimulate_11 : decode cL_doSimulate 11 = .ok (.ireturn, 1) := by decide +kernel
theorem dL_tryAppend_0 : decode cL_tryAppend 0 = .ok (.aload_n 0, 1) := by decide +kernel
theorem dL_tryAppend_1 : decode cL_tryAppend 1 = .ok (.iload_n 1, 1) := by decide +kernel
theorem dL_tryAppend_2 : decode cL_tryAppend 2 = .ok (.invokevirtual 27, 3) := by decide +kernel
theorem dL_tryAppend_5 : decode cL_tryAppend 5 = .ok (.ireturn, 1) := by decide +kernel
theorem dL_tryAppend_6 : decode cL_tryAppend 6 = .ok (.astore_n 2, 1) := by decide +kernel
theorem dL_tryAppend_7 : decode cL_tryAppend 7 = .ok (.ldc 18, 2) := by decide +kernel
theorem dL_tryAppend_9 : decode cL_tryAppend 9 = .ok (.ireturn, 1) := by decide +kernel
theorem dL_tryAppend_10 : decode cL_tryAppend 10 = .ok (.astore_n 2, 1) := by decide +kernel
theorem dL_tryAppend_11 : decode cL_tryAppend 11 = .ok (.ldc 33, 2) := by decide +kernel
theorem dL_tryAppend_13 : decode cL_tryAppend 13 = .ok (.ireturn, 1) := by decide +kernel
theorem dL_tryLoad_0 : decode cL_tryLoad 0 = .ok (.aload_n 0, 1) := by decide +kernel
theorem dL_tryLoad_1 : decode cL_tryLoad 1 = .ok (.invokevirtual 34, 3) := by decide +kernel
theorem dL_tryLoad_4 : decode cL_tryLoad 4 = .ok (.ireturn, 1) := by decide +kernel
theorem dL_tryLoad_5 : decode cL_tryLoad 5 = .ok (.astore_n 1, 1) := by decide +kernel
theorem dL_tryLoad_6 : decode cL_tryLoad 6 = .ok (.ldc 33, 2) := by decide +kernel
theorem dL_tryLoad_8 : decode cL_tryLoad 8 = .ok (.ireturn, 1) := by decide +kernel
theorem dL_tryAbout_0 : decode cL_tryAbout 0 = .ok (.aload_n 0, 1) := by decide +kernel
theorem dL_tryAbout_1 : decode cL_tryAbout 1 = .ok (.iload_n 1, 1) := by decide +kernel
theorem dL_tryAbout_2 : decode cL_tryAbout 2 = .ok (.invokevirtual 38, 3) := by decide +kernel
theorem dL_tryAbout_5 : decode cL_tryAbout 5 = .ok (.ireturn, 1) := by decide +kernel
theorem dL_tryAbout_6 : decode cL_tryAbout 6 = .ok (.astore_n 2, 1) := by decide +kernel
theorem dL_tryAbout_7 : decode cL_tryAbout 7 = .ok (.ldc 18, 2) := by decide +kernel
theorem dL_tryAbout_9 : decode cL_tryAbout 9 = .ok (.ireturn, 1) := by decide +kernel
theorem dL_tryLeaves_0 : decode cL_tryLeaves 0 = .ok (.aload_n 0, 1) := by decide +kernel
theorem dL_tryLeaves_1 : decode cL_tryLeaves 1 = .ok (.iload_n 1, 1) := by decide +kernel
theorem dL_tryLeaves_2 : decode cL_tryLeaves 2 = .ok (.invokevirtual 41, 3) := by decide +kernel
theorem dL_tryLeaves_5 : decode cL_tryLeaves 5 = .ok (.ireturn, 1) := by decide +kernel
theorem dL_tryLeaves_6 : decode cL_tryLeaves 6 = .ok (.astore_n 2, 1) := by decide +kernel
theorem dL_tryLeaves_7 : decode cL_tryLeaves 7 = .ok (.ldc 15, 2) := by decide +kernel
theorem dL_tryLeaves_9 : decode cL_tryLeaves 9 = .ok (.ireturn, 1) := by decide +kernel
theorem dL_tryWho_0 : decode cL_tryWho 0 = .ok (.aload_n 0, 1) := by decide +kernel
theorem dL_tryWho_1 : decode cL_tryWho 1 = .ok (.iload_n 1, 1) := by decide +kernel
theorem dL_tryWho_2 : decode cL_tryWho 2 = .ok (.iload_n 2, 1) := by decide +kernel
theorem dL_tryWho_3 : decode cL_tryWho 3 = .ok (.invokevirtual 44, 3) := by decide +kernel
theorem dL_tryWho_6 : decode cL_tryWho 6 = .ok (.ireturn, 1) := by decide +kernel
theorem dL_tryWho_7 : decode cL_tryWho 7 = .ok (.astore_n 3, 1) := by decide +kernel
theorem dL_tryWho_8 : decode cL_tryWho 8 = .ok (.ldc 15, 2) := by decide +kernel
theorem dL_tryWho_10 : decode cL_tryWho 10 = .ok (.ireturn, 1) := by decide +kernel
theorem dL_tryWho_11 : decode cL_tryWho 11 = .ok (.astore_n 3, 1) := by decide +kernel
theorem dL_tryWho_12 : decode cL_tryWho 12 = .ok (.ldc 18, 2) := by decide +kernel
theorem dL_tryWho_14 : decode cL_tryWho 14 = .ok (.ireturn, 1) := by decide +kernel
theorem dL_trySetting_0 : decode cL_trySetting 0 = .ok (.aload_n 0, 1) := by decide +kernel
theorem dL_trySetting_1 : decode cL_trySetting 1 = .ok (.iload_n 1, 1) := by decide +kernel
theorem dL_trySetting_2 : decode cL_trySetting 2 = .ok (.invokevirtual 48, 3) := by decide +kernel
theorem dL_trySetting_5 : decode cL_trySetting 5 = .ok (.ireturn, 1) := by decide +kernel
theorem dL_trySetting_6 : decode cL_trySetting 6 = .ok (.astore_n 2, 1) := by decide +kernel
theorem dL_trySetting_7 : decode cL_trySetting 7 = .ok (.ldc 18, 2) := by decide +kernel
theorem dL_trySetting_9 : decode cL_trySetting 9 = .ok (.ireturn, 1) := by decide +kernel
theorem dL_tryPlant_0 : decode cL_tryPlant 0 = .ok (.aload_n 0, 1) := by decide +kernel
theorem dL_tryPlant_1 : decode cL_tryPlant 1 = .ok (.iload_n 1, 1) := by decide +kernel
theorem dL_tryPlant_2 : decode cL_tryPlant 2 = .ok (.iload_n 2, 1) := by decide +kernel
theorem dL_tryPlant_3 : decode cL_tryPlant 3 = .ok (.invokevirtual 51, 3) := by decide +kernel
theorem dL_tryPlant_6 : decode cL_tryPlant 6 = .ok (.ireturn, 1) := by decide +kernel
theorem dL_tryPlant_7 : decode cL_tryPlant 7 = .ok (.astore_n 3, 1) := by decide +kernel
theorem dL_tryPlant_8 : decode cL_tryPlant 8 = .ok (.ldc 18, 2) := by decide +kernel
theorem dL_tryPlant_10 : decode cL_tryPlant 10 = .ok (.ireturn, 1) := by decide +kernel
theorem dL_tryClip_0 : decode cL_tryClip 0 = .ok (.aload_n 0, 1) := by decide +kernel
theorem dL_tryClip_1 : decode cL_tryClip 1 = .ok (.iload_n 1, 1) := by decide +kernel
theorem dL_tryClip_2 : decode cL_tryClip 2 = .ok (.iload_n 2, 1) := by decide +kernel
theorem dL_tryClip_3 : decode cL_tryClip 3 = .ok (.iload_n 3, 1) := by decide +kernel
theorem dL_tryClip_4 : decode cL_tryClip 4 = .ok (.invokevirtual 54, 3) := by decide +kernel
theorem dL_tryClip_7 : decode cL_tryClip 7 = .ok (.ireturn, 1) := by decide +kernel
theorem dL_tryClip_8 : decode cL_tryClip 8 = .ok (.astore 4, 2) := by decide +kernel
theorem dL_tryClip_10 : decode cL_tryClip 10 = .ok (.ldc 15, 2) := by decide +kernel
theorem dL_tryClip_12 : decode cL_tryClip 12 = .ok (.ireturn, 1) := by decide +kernel
theorem dL_tryClip_13 : decode cL_tryClip 13 = .ok (.astore 4, 2) := by decide +kernel
theorem dL_tryClip_15 : decode cL_tryClip 15 = .ok (.ldc 18, 2) := by decide +kernel
theorem dL_tryClip_17 : decode cL_tryClip 17 = .ok (.ireturn, 1) := by decide +kernel
theorem dL_tryClip_18 : decode cL_tryClip 18 = .ok (.astore 4, 2) := by decide +kernel
theorem dL_tryClip_20 : decode cL_tryClip 20 = .ok (.ldc 33, 2) := by decide +kernel
theorem dL_tryClip_22 : decode cL_tryClip 22 = .ok (.ireturn, 1) := by decide +kernel
theorem dL_tryWater_0 : decode cL_tryWater 0 = .ok (.aload_n 0, 1) := by decide +kernel
theorem dL_tryWater_1 : decode cL_tryWater 1 = .ok (.iload_n 1, 1) := by decide +kernel
theorem dL_tryWater_2 : decode cL_tryWater 2 = .ok (.invokevirtual 58, 3) := by decide +kernel
theorem dL_tryWater_5 : decode cL_tryWater 5 = .ok (.ireturn, 1) := by decide +kernel
theorem dL_tryWater_6 : decode cL_tryWater 6 = .ok (.astore_n 2, 1) := by decide +kernel
theorem dL_tryWater_7 : decode cL_tryWater 7 = .ok (.ldc 15, 2) := by decide +kernel
theorem dL_tryWater_9 : decode cL_tryWater 9 = .ok (.ireturn, 1) := by decide +kernel
theorem dL_tryWater_10 : decode cL_tryWater 10 = .ok (.astore_n 2, 1) := by decide +kernel
theorem dL_tryWater_11 : decode cL_tryWater 11 = .ok (.ldc 33, 2) := by decide +kernel
theorem dL_tryWater_13 : decode cL_tryWater 13 = .ok (.ireturn, 1) := by decide +kernel
theorem dL_tryWind_0 : decode cL_tryWind 0 = .ok (.aload_n 0, 1) := by decide +kernel
theorem dL_tryWind_1 : decode cL_tryWind 1 = .ok (.iload_n 1, 1) := by decide +kernel
theorem dL_tryWind_2 : decode cL_tryWind 2 = .ok (.invokevirtual 61, 3) := by decide +kernel
theorem dL_tryWind_5 : decode cL_tryWind 5 = .ok (.ireturn, 1) := by decide +kernel
theorem dL_tryWind_6 : decode cL_tryWind 6 = .ok (.astore_n 2, 1) := by decide +kernel
theorem dL_tryWind_7 : decode cL_tryWind 7 = .ok (.ldc 18, 2) := by decide +kernel
theorem dL_tryWind_9 : decode cL_tryWind 9 = .ok (.ireturn, 1) := by decide +kernel
theorem dL_tryLay_0 : decode cL_tryLay 0 = .ok (.aload_n 0, 1) := by decide +kernel
theorem dL_tryLay_1 : decode cL_tryLay 1 = .ok (.iload_n 1, 1) := by decide +kernel
theorem dL_tryLay_2 : decode cL_tryLay 2 = .ok (.iload_n 2, 1) := by decide +kernel
theorem dL_tryLay_3 : decode cL_tryLay 3 = .ok (.invokevirtual 64, 3) := by decide +kernel
theorem dL_tryLay_6 : decode cL_tryLay 6 = .ok (.ireturn, 1) := by decide +kernel
theorem dL_tryLay_7 : decode cL_tryLay 7 = .ok (.astore_n 3, 1) := by decide +kernel
theorem dL_tryLay_8 : decode cL_tryLay 8 = .ok (.ldc 18, 2) := by decide +kernel
theorem dL_tryLay_10 : decode cL_tryLay 10 = .ok (.ireturn, 1) := by decide +kernel
theorem dL_tryUndo_0 : decode cL_tryUndo 0 = .ok (.aload_n 0, 1) := by decide +kernel
theorem dL_tryUndo_1 : decode cL_tryUndo 1 = .ok (.invokevirtual 67, 3) := by decide +kernel
theorem dL_tryUndo_4 : decode cL_tryUndo 4 = .ok (.ireturn, 1) := by decide +kernel
theorem dL_tryUndo_5 : decode cL_tryUndo 5 = .ok (.astore_n 1, 1) := by decide +kernel
theorem dL_tryUndo_6 : decode cL_tryUndo 6 = .ok (.ldc 33, 2) := by decide +kernel
theorem dL_tryUndo_8 : decode cL_tryUndo 8 = .ok (.ireturn, 1) := by decide +kernel
theorem dL_tryGoes_0 : decode cL_tryGoes 0 = .ok (.aload_n 0, 1) := by decide +kernel
theorem dL_tryGoes_1 : decode cL_tryGoes 1 = .ok (.iload_n 1, 1) := by decide +kernel
theorem dL_tryGoes_2 : decode cL_tryGoes 2 = .ok (.iload_n 2, 1) := by decide +kernel
theorem dL_tryGoes_3 : decode cL_tryGoes 3 = .ok (.invokevirtual 70, 3) := by decide +kernel
theorem dL_tryGoes_6 : decode cL_tryGoes 6 = .ok (.ireturn, 1) := by decide +kernel
theorem dL_tryGoes_7 : decode cL_tryGoes 7 = .ok (.astore_n 3, 1) := by decide +kernel
theorem dL_tryGoes_8 : decode cL_tryGoes 8 = .ok (.ldc 18, 2) := by decide +kernel
theorem dL_tryGoes_10 : decode cL_tryGoes 10 = .ok (.ireturn, 1) := by decide +kernel
theorem dL_tryKeep_0 : decode cL_tryKeep 0 = .ok (.aload_n 0, 1) := by decide +kernel
theorem dL_tryKeep_1 : decode cL_tryKeep 1 = .ok (.iload_n 1, 1) := by decide +kernel
theorem dL_tryKeep_2 : decode cL_tryKeep 2 = .ok (.invokevirtual 73, 3) := by decide +kernel
theorem dL_tryKeep_5 : decode cL_tryKeep 5 = .ok (.ireturn, 1) := by decide +kernel
theorem dL_tryKeep_6 : decode cL_tryKeep 6 = .ok (.astore_n 2, 1) := by decide +kernel
theorem dL_tryKeep_7 : decode cL_tryKeep 7 = .ok (.ldc 15, 2) := by decide +kernel
theorem dL_tryKeep_9 : decode cL_tryKeep 9 = .ok (.ireturn, 1) := by decide +kernel
theorem dL_tryBack_0 : decode cL_tryBack 0 = .ok (.aload_n 0, 1) := by decide +kernel
theorem dL_tryBack_1 : decode cL_tryBack 1 = .ok (.iload_n 1, 1) := by decide +kernel
theorem dL_tryBack_2 : decode cL_tryBack 2 = .ok (.invokevirtual 76, 3) := by decide +kernel
theorem dL_tryBack_5 : decode cL_tryBack 5 = .ok (.ireturn, 1) := by decide +kernel
theorem dL_tryBack_6 : decode cL_tryBack 6 = .ok (.astore_n 2, 1) := by decide +kernel
theorem dL_tryBack_7 : decode cL_tryBack 7 = .ok (.ldc 15, 2) := by decide +kernel
theorem dL_tryBack_9 : decode cL_tryBack 9 = .ok (.ireturn, 1) := by decide +kernel
theorem dL_tryBack_10 : decode cL_tryBack 10 = .ok (.astore_n 2, 1) := by decide +kernel
theorem dL_tryBack_11 : decode cL_tryBack 11 = .ok (.ldc 33, 2) := by decide +kernel
theorem dL_tryBack_13 : decode cL_tryBack 13 = .ok (.ireturn, 1) := by decide +kernel
theorem dL_call_0 : decode cL_call 0 = .ok (.iload_n 1, 1) := by decide +kernel
theorem dL_call_1 : decode cL_call 1 = .ok (.tableswitch 160 0 13 #[71, 77, 82, 88, 94, 101, 107, 114, 123, 129, 135, 142, 147, 154], 71) := by decide +kernel
theorem dL_call_72 : decode cL_call 72 = .ok (.aload_n 0, 1) := by decide +kernel
theorem dL_call_73 : decode cL_call 73 = .ok (.iload_n 2, 1) := by decide +kernel
theorem dL_call_74 : decode cL_call 74 = .ok (.invokestatic 79, 3) := by decide +kernel
theorem dL_call_77 : decode cL_call 77 = .ok (.ireturn, 1) := by decide +kernel
theorem dL_call_78 : decode cL_call 78 = .ok (.aload_n 0, 1) := by decide +kernel
theorem dL_call_79 : decode cL_call 79 = .ok (.invokestatic 85, 3) := by decide +kernel
theorem dL_call_82 : decode cL_call 82 = .ok (.ireturn, 1) := by decide +kernel
theorem dL_call_83 : decode cL_call 83 = .ok (.aload_n 0, 1) := by decide +kernel
theorem dL_call_84 : decode cL_call 84 = .ok (.iload_n 2, 1) := by decide +kernel
theorem dL_call_85 : decode cL_call 85 = .ok (.invokestatic 89, 3) := by decide +kernel
theorem dL_call_88 : decode cL_call 88 = .ok (.ireturn, 1) := by decide +kernel
theorem dL_call_89 : decode cL_call 89 = .ok (.aload_n 0, 1) := by decide +kernel
theorem dL_call_90 : decode cL_call 90 = .ok (.iload_n 2, 1) := by decide +kernel
theorem dL_call_91 : decode cL_call 91 = .ok (.invokestatic 92, 3) := by decide +kernel
theorem dL_call_94 : decode cL_call 94 = .ok (.ireturn, 1) := by decide +kernel
theorem dL_call_95 : decode cL_call 95 = .ok (.aload_n 0, 1) := by decide +kernel
theorem dL_call_96 : decode cL_call 96 = .ok (.iload_n 2, 1) := by decide +kernel
theorem dL_call_97 : decode cL_call 97 = .ok (.iload_n 3, 1) := by decide +kernel
theorem dL_call_98 : decode cL_call 98 = .ok (.invokestatic 95, 3) := by decide +kernel
theorem dL_call_101 : decode cL_call 101 = .ok (.ireturn, 1) := by decide +kernel
theorem dL_call_102 : decode cL_call 102 = .ok (.aload_n 0, 1) := by decide +kernel
theorem dL_call_103 : decode cL_call 103 = .ok (.iload_n 2, 1) := by decide +kernel
theorem dL_call_104 : decode cL_call 104 = .ok (.invokestatic 99, 3) := by decide +kernel
theorem dL_call_107 : decode cL_call 107 = .ok (.ireturn, 1) := by decide +kernel
theorem dL_call_108 : decode cL_call 108 = .ok (.aload_n 0, 1) := by decide +kernel
theorem dL_call_109 : decode cL_call 109 = .ok (.iload_n 2, 1) := by decide +kernel
theorem dL_call_110 : decode cL_call 110 = .ok (.iload_n 3, 1) := by decide +kernel
theorem dL_call_111 : decode cL_call 111 = .ok (.invokestatic 102, 3) := by decide +kernel
theorem dL_call_114 : decode cL_call 114 = .ok (.ireturn, 1) := by decide +kernel
theorem dL_call_115 : decode cL_call 115 = .ok (.aload_n 0, 1) := by decide +kernel
theorem dL_call_116 : decode cL_call 116 = .ok (.iload_n 2, 1) := by decide +kernel
theorem dL_call_117 : decode cL_call 117 = .ok (.iload_n 3, 1) := by decide +kernel
theorem dL_call_118 : decode cL_call 118 = .ok (.iload 4, 2) := by decide +kernel
theorem dL_call_120 : decode cL_call 120 = .ok (.invokestatic 105, 3) := by decide +kernel
theorem dL_call_123 : decode cL_call 123 = .ok (.ireturn, 1) := by decide +kernel
theorem dL_call_124 : decode cL_call 124 = .ok (.aload_n 0, 1) := by decide +kernel
theorem dL_call_125 : decode cL_call 125 = .ok (.iload_n 2, 1) := by decide +kernel
theorem dL_call_126 : decode cL_call 126 = .ok (.invokestatic 109, 3) := by decide +kernel
theorem dL_call_129 : decode cL_call 129 = .ok (.ireturn, 1) := by decide +kernel
theorem dL_call_130 : decode cL_call 130 = .ok (.aload_n 0, 1) := by decide +kernel
theorem dL_call_131 : decode cL_call 131 = .ok (.iload_n 2, 1) := by decide +kernel
theorem dL_call_132 : decode cL_call 132 = .ok (.invokestatic 112, 3) := by decide +kernel
theorem dL_call_135 : decode cL_call 135 = .ok (.ireturn, 1) := by decide +kernel
theorem dL_call_136 : decode cL_call 136 = .ok (.aload_n 0, 1) := by decide +kernel
theorem dL_call_137 : decode cL_call 137 = .ok (.iload_n 2, 1) := by decide +kernel
theorem dL_call_138 : decode cL_call 138 = .ok (.iload_n 3, 1) := by decide +kernel
theorem dL_call_139 : decode cL_call 139 = .ok (.invokestatic 115, 3) := by decide +kernel
theorem dL_call_142 : decode cL_call 142 = .ok (.ireturn, 1) := by decide +kernel
theorem dL_call_143 : decode cL_call 143 = .ok (.aload_n 0, 1) := by decide +kernel
theorem dL_call_144 : decode cL_call 144 = .ok (.invokestatic 118, 3) := by decide +kernel
theorem dL_call_147 : decode cL_call 147 = .ok (.ireturn, 1) := by decide +kernel
theorem dL_call_148 : decode cL_call 148 = .ok (.aload_n 0, 1) := by decide +kernel
theorem dL_call_149 : decode cL_call 149 = .ok (.iload_n 2, 1) := by decide +kernel
theorem dL_call_150 : decode cL_call 150 = .ok (.iload_n 3, 1) := by decide +kernel
theorem dL_call_151 : decode cL_call 151 = .ok (.invokestatic 121, 3) := by decide +kernel
theorem dL_call_154 : decode cL_call 154 = .ok (.ireturn, 1) := by decide +kernel
theorem dL_call_155 : decode cL_call 155 = .ok (.aload_n 0, 1) := by decide +kernel
theorem dL_call_156 : decode cL_call 156 = .ok (.iload_n 2, 1) := by decide +kernel
theorem dL_call_157 : decode cL_call 157 = .ok (.invokestatic 124, 3) := by decide +kernel
theorem dL_call_160 : decode cL_call 160 = .ok (.ireturn, 1) := by decide +kernel
theorem dL_call_161 : decode cL_call 161 = .ok (.aload_n 0, 1) := by decide +kernel
theorem dL_call_162 : decode cL_call 162 = .ok (.iload_n 2, 1) := by decide +kernel
theorem dL_call_163 : decode cL_call 163 = .ok (.invokestatic 127, 3) := by decide +kernel
theorem dL_call_166 : decode cL_call 166 = .ok (.ireturn, 1) := by decide +kernel
theorem dL_cell_0 : decode cL_cell 0 = .ok (.iload_n 1, 1) := by decide +kernel
theorem dL_cell_1 : decode cL_cell 1 = .ok (.aload_n 0, 1) := by decide +kernel
theorem dL_cell_2 : decode cL_cell 2 = .ok (.arraylength, 1) := by decide +kernel
theorem dL_cell_3 : decode cL_cell 3 = .ok (.if_icmp .ge 9, 3) := by decide +kernel
theorem dL_cell_6 : decode cL_cell 6 = .ok (.aload_n 0, 1) := by decide +kernel
theorem dL_cell_7 : decode cL_cell 7 = .ok (.iload_n 1, 1) := by decide +kernel
theorem dL_cell_8 : decode cL_cell 8 = .ok (.iaload, 1) := by decide +kernel
theorem dL_cell_9 : decode cL_cell 9 = .ok (.goto 13, 3) := by decide +kernel
theorem dL_cell_12 : decode cL_cell 12 = .ok (.ldc 130, 2) := by decide +kernel
theorem dL_cell_14 : decode cL_cell 14 = .ok (.iload_n 1, 1) := by decide +kernel
theorem dL_cell_15 : decode cL_cell 15 = .ok (.iconst 3, 1) := by decide +kernel
theorem dL_cell_16 : decode cL_cell 16 = .ok (.iadd, 1) := by decide +kernel
theorem dL_cell_17 : decode cL_cell 17 = .ok (.imul, 1) := by decide +kernel
theorem dL_cell_18 : decode cL_cell 18 = .ok (.sipush 11437, 3) := by decide +kernel
theorem dL_cell_21 : decode cL_cell 21 = .ok (.iadd, 1) := by decide +kernel
theorem dL_cell_22 : decode cL_cell 22 = .ok (.ldc 131, 2) := by decide +kernel
theorem dL_cell_24 : decode cL_cell 24 = .ok (.iand, 1) := by decide +kernel
theorem dL_cell_25 : decode cL_cell 25 = .ok (.ireturn, 1) := by decide +kernel
theorem dL_thrown_0 : decode cL_thrown 0 = .ok (.iload_n 0, 1) := by decide +kernel
theorem dL_thrown_1 : decode cL_thrown 1 = .ok (.ldc 15, 2) := by decide +kernel
theorem dL_thrown_3 : decode cL_thrown 3 = .ok (.if_icmp .eq 15, 3) := by decide +kernel
theorem dL_thrown_6 : decode cL_thrown 6 = .ok (.iload_n 0, 1) := by decide +kernel
theorem dL_thrown_7 : decode cL_thrown 7 = .ok (.ldc 18, 2) := by decide +kernel
theorem dL_thrown_9 : decode cL_thrown 9 = .ok (.if_icmp .eq 9, 3) := by decide +kernel
theorem dL_thrown_12 : decode cL_thrown 12 = .ok (.iload_n 0, 1) := by decide +kernel
theorem dL_thrown_13 : decode cL_thrown 13 = .ok (.ldc 33, 2) := by decide +kernel
theorem dL_thrown_15 : decode cL_thrown 15 = .ok (.if_icmp .ne 7, 3) := by decide +kernel
theorem dL_thrown_18 : decode cL_thrown 18 = .ok (.iconst 1, 1) := by decide +kernel
theorem dL_thrown_19 : decode cL_thrown 19 = .ok (.goto 4, 3) := by decide +kernel
theorem dL_thrown_22 : decode cL_thrown 22 = .ok (.iconst 0, 1) := by decide +kernel
theorem dL_thrown_23 : decode cL_thrown 23 = .ok (.ireturn, 1) := by decide +kernel
theorem dL_refuses_0 : decode cL_refuses 0 = .ok (.aload_n 0, 1) := by decide +kernel
theorem dL_refuses_1 : decode cL_refuses 1 = .ok (.iconst 2, 1) := by decide +kernel
theorem dL_refuses_2 : decode cL_refuses 2 = .ok (.iconst 0, 1) := by decide +kernel
theorem dL_refuses_3 : decode cL_refuses 3 = .ok (.iconst 0, 1) := by decide +kernel
theorem dL_refuses_4 : decode cL_refuses 4 = .ok (.iconst 0, 1) := by decide +kernel
theorem dL_refuses_5 : decode cL_refuses 5 = .ok (.invokestatic 132, 3) := by decide +kernel
theorem dL_refuses_8 : decode cL_refuses 8 = .ok (.istore_n 2, 1) := by decide +kernel
theorem dL_refuses_9 : decode cL_refuses 9 = .ok (.aload_n 0, 1) := by decide +kernel
theorem dL_refuses_10 : decode cL_refuses 10 = .ok (.iconst 5, 1) := by decide +kernel
theorem dL_refuses_11 : decode cL_refuses 11 = .ok (.iconst 1, 1) := by decide +kernel
theorem dL_refuses_12 : decode cL_refuses 12 = .ok (.iconst 0, 1) := by decide +kernel
theorem dL_refuses_13 : decode cL_refuses 13 = .ok (.iconst 0, 1) := by decide +kernel
theorem dL_refuses_14 : decode cL_refuses 14 = .ok (.invokestatic 132, 3) := by decide +kernel
theorem dL_refuses_17 : decode cL_refuses 17 = .ok (.istore_n 3, 1) := by decide +kernel
theorem dL_refuses_18 : decode cL_refuses 18 = .ok (.iload_n 1, 1) := by decide +kernel
theorem dL_refuses_19 : decode cL_refuses 19 = .ok (.iconst 2, 1) := by decide +kernel
theorem dL_refuses_20 : decode cL_refuses 20 = .ok (.irem, 1) := by decide +kernel
theorem dL_refuses_21 : decode cL_refuses 21 = .ok (.ifCond .ne 12, 3) := by decide +kernel
theorem dL_refuses_24 : decode cL_refuses 24 = .ok (.iconst (-1), 1) := by decide +kernel
theorem dL_refuses_25 : decode cL_refuses 25 = .ok (.iload_n 1, 1) := by decide +kernel
theorem dL_refuses_26 : decode cL_refuses 26 = .ok (.bipush 99, 2) := by decide +kernel
theorem dL_refuses_28 : decode cL_refuses 28 = .ok (.irem, 1) := by decide +kernel
theorem dL_refuses_29 : decode cL_refuses 29 = .ok (.isub, 1) := by decide +kernel
theorem dL_refuses_30 : decode cL_refuses 30 = .ok (.goto 9, 3) := by decide +kernel
theorem dL_refuses_33 : decode cL_refuses 33 = .ok (.iload_n 2, 1) := by decide +kernel
theorem dL_refuses_34 : decode cL_refuses 34 = .ok (.iload_n 1, 1) := by decide +kernel
theorem dL_refuses_35 : decode cL_refuses 35 = .ok (.bipush 99, 2) := by decide +kernel
theorem dL_refuses_37 : decode cL_refuses 37 = .ok (.irem, 1) := by decide +kernel
theorem dL_refuses_38 : decode cL_refuses 38 = .ok (.iadd, 1) := by decide +kernel
theorem dL_refuses_39 : decode cL_refuses 39 = .ok (.istore 4, 2) := by decide +kernel
theorem dL_refuses_41 : decode cL_refuses 41 = .ok (.iload_n 2, 1) := by decide +kernel
theorem dL_refuses_42 : decode cL_refuses 42 = .ok (.iconst 1, 1) := by decide +kernel
theorem dL_refuses_43 : decode cL_refuses 43 = .ok (.isub, 1) := by decide +kernel
theorem dL_refuses_44 : decode cL_refuses 44 = .ok (.istore 5, 2) := by decide +kernel
theorem dL_refuses_46 : decode cL_refuses 46 = .ok (.aload_n 0, 1) := by decide +kernel
theorem dL_refuses_47 : decode cL_refuses 47 = .ok (.iconst 0, 1) := by decide +kernel
theorem dL_refuses_48 : decode cL_refuses 48 = .ok (.iload_n 1, 1) := by decide +kernel
theorem dL_refuses_49 : decode cL_refuses 49 = .ok (.iconst 2, 1) := by decide +kernel
theorem dL_refuses_50 : decode cL_refuses 50 = .ok (.irem, 1) := by decide +kernel
theorem dL_refuses_51 : decode cL_refuses 51 = .ok (.ifCond .ne 12, 3) := by decide +kernel
theorem dL_refuses_54 : decode cL_refuses 54 = .ok (.iconst (-1), 1) := by decide +kernel
theorem dL_refuses_55 : decode cL_refuses 55 = .ok (.iload_n 1, 1) := by decide +kernel
theorem dL_refuses_56 : decode cL_refuses 56 = .ok (.bipush 9, 2) := by decide +kernel
theorem dL_refuses_58 : decode cL_refuses 58 = .ok (.irem, 1) := by decide +kernel
theorem dL_refuses_59 : decode cL_refuses 59 = .ok (.isub, 1) := by decide +kernel
theorem dL_refuses_60 : decode cL_refuses 60 = .ok (.goto 11, 3) := by decide +kernel
theorem dL_refuses_63 : decode cL_refuses 63 = .ok (.sipush 256, 3) := by decide +kernel
theorem dL_refuses_66 : decode cL_refuses 66 = .ok (.iload_n 1, 1) := by decide +kernel
theorem dL_refuses_67 : decode cL_refuses 67 = .ok (.bipush 9, 2) := by decide +kernel
theorem dL_refuses_69 : decode cL_refuses 69 = .ok (.irem, 1) := by decide +kernel
theorem dL_refuses_70 : decode cL_refuses 70 = .ok (.iadd, 1) := by decide +kernel
theorem dL_refuses_71 : decode cL_refuses 71 = .ok (.iconst 0, 1) := by decide +kernel
theorem dL_refuses_72 : decode cL_refuses 72 = .ok (.iconst 0, 1) := by decide +kernel
theorem dL_refuses_73 : decode cL_refuses 73 = .ok (.invokestatic 132, 3) := by decide +kernel
theorem dL_refuses_76 : decode cL_refuses 76 = .ok (.ldc 18, 2) := by decide +kernel
theorem dL_refuses_78 : decode cL_refuses 78 = .ok (.if_icmp .ne 568, 3) := by decide +kernel
theorem dL_refuses_81 : decode cL_refuses 81 = .ok (.aload_n 0, 1) := by decide +kernel
theorem dL_refuses_82 : decode cL_refuses 82 = .ok (.iconst 2, 1) := by decide +kernel
theorem dL_refuses_83 : decode cL_refuses 83 = .ok (.bipush 9, 2) := by decide +kernel
theorem dL_refuses_85 : decode cL_refuses 85 = .ok (.iload_n 1, 1) := by decide +kernel
theorem dL_refuses_86 : decode cL_refuses 86 = .ok (.bipush 50, 2) := by decide +kernel
theorem dL_refuses_88 : decode cL_refuses 88 = .ok (.irem, 1) := by decide +kernel
theorem dL_refuses_89 : decode cL_refuses 89 = .ok (.iadd, 1) := by decide +kernel
theorem dL_refuses_90 : decode cL_refuses 90 = .ok (.iconst 0, 1) := by decide +kernel
theorem dL_refuses_91 : decode cL_refuses 91 = .ok (.iconst 0, 1) := by decide +kernel
theorem dL_refuses_92 : decode cL_refuses 92 = .ok (.invokestatic 132, 3) := by decide +kernel
theorem dL_refuses_95 : decode cL_refuses 95 = .ok (.ldc 18, 2) := by decide +kernel
theorem dL_refuses_97 : decode cL_refuses 97 = .ok (.if_icmp .ne 549, 3) := by decide +kernel
theorem dL_refuses_100 : decode cL_refuses 100 = .ok (.aload_n 0, 1) := by decide +kernel
theorem dL_refuses_101 : decode cL_refuses 101 = .ok (.iconst 3, 1) := by decide +kernel
theorem dL_refuses_102 : decode cL_refuses 102 = .ok (.iload 4, 2) := by decide +kernel
theorem dL_refuses_104 : decode cL_refuses 104 = .ok (.iconst 0, 1) := by decide +kernel
theorem dL_refuses_105 : decode cL_refuses 105 = .ok (.iconst 0, 1) := by decide +kernel
theorem dL_refuses_106 : decode cL_refuses 106 = .ok (.invokestatic 132, 3) := by decide +kernel
theorem dL_refuses_109 : decode cL_refuses 109 = .ok (.ldc 15, 2) := by decide +kernel
theorem dL_refuses_111 : decode cL_refuses 111 = .ok (.if_icmp .ne 535, 3) := by decide +kernel
theorem dL_refuses_114 : decode cL_refuses 114 = .ok (.aload_n 0, 1) := by decide +kernel
theorem dL_refuses_115 : decode cL_refuses 115 = .ok (.iconst 4, 1) := by decide +kernel
theorem dL_refuses_116 : decode cL_refuses 116 = .ok (.iconst 2, 1) := by decide +kernel
theorem dL_refuses_117 : decode cL_refuses 117 = .ok (.iload_n 1, 1) := by decide +kernel
theorem dL_refuses_118 : decode cL_refuses 118 = .ok (.bipush 9, 2) := by decide +kernel
theorem dL_refuses_120 : decode cL_refuses 120 = .ok (.irem, 1) := by decide +kernel
theorem dL_refuses_121 : decode cL_refuses 121 = .ok (.iadd, 1) := by decide +kernel
theorem dL_refuses_122 : decode cL_refuses 122 = .ok (.bipush 9, 2) := by decide +kernel
theorem dL_refuses_124 : decode cL_refuses 124 = .ok (.iconst 0, 1) := by decide +kernel
theorem dL_refuses_125 : decode cL_refuses 125 = .ok (.invokestatic 132, 3) := by decide +kernel
theorem dL_refuses_128 : decode cL_refuses 128 = .ok (.ldc 15, 2) := by decide +kernel
theorem dL_refuses_130 : decode cL_refuses 130 = .ok (.if_icmp .ne 516, 3) := by decide +kernel
theorem dL_refuses_133 : decode cL_refuses 133 = .ok (.aload_n 0, 1) := by decide +kernel
theorem dL_refuses_134 : decode cL_refuses 134 = .ok (.iconst 4, 1) := by decide +kernel
theorem dL_refuses_135 : decode cL_refuses 135 = .ok (.iload_n 1, 1) := by decide +kernel
theorem dL_refuses_136 : decode cL_refuses 136 = .ok (.iconst 2, 1) := by decide +kernel
theorem dL_refuses_137 : decode cL_refuses 137 = .ok (.irem, 1) := by decide +kernel
theorem dL_refuses_138 : decode cL_refuses 138 = .ok (.iconst 3, 1) := by decide +kernel
theorem dL_refuses_139 : decode cL_refuses 139 = .ok (.iload_n 1, 1) := by decide +kernel
theorem dL_refuses_140 : decode cL_refuses 140 = .ok (.bipush 9, 2) := by decide +kernel
theorem dL_refuses_142 : decode cL_refuses 142 = .ok (.irem, 1) := by decide +kernel
theorem dL_refuses_143 : decode cL_refuses 143 = .ok (.iadd, 1) := by decide +kernel
theorem dL_refuses_144 : decode cL_refuses 144 = .ok (.iconst 0, 1) := by decide +kernel
theorem dL_refuses_145 : decode cL_refuses 145 = .ok (.invokestatic 132, 3) := by decide +kernel
theorem dL_refuses_148 : decode cL_refuses 148 = .ok (.ldc 18, 2) := by decide +kernel
theorem dL_refuses_150 : decode cL_refuses 150 = .ok (.if_icmp .ne 496, 3) := by decide +kernel
theorem dL_refuses_153 : decode cL_refuses 153 = .ok (.aload_n 0, 1) := by decide +kernel
theorem dL_refuses_154 : decode cL_refuses 154 = .ok (.iconst 5, 1) := by decide +kernel
theorem dL_refuses_155 : decode cL_refuses 155 = .ok (.iconst 2, 1) := by decide +kernel
theorem dL_refuses_156 : decode cL_refuses 156 = .ok (.iload_n 1, 1) := by decide +kernel
theorem dL_refuses_157 : decode cL_refuses 157 = .ok (.bipush 9, 2) := by decide +kernel
theorem dL_refuses_159 : decode cL_refuses 159 = .ok (.irem, 1) := by decide +kernel
theorem dL_refuses_160 : decode cL_refuses 160 = .ok (.iadd, 1) := by decide +kernel
theorem dL_refuses_161 : decode cL_refuses 161 = .ok (.iconst 0, 1) := by decide +kernel
theorem dL_refuses_162 : decode cL_refuses 162 = .ok (.iconst 0, 1) := by decide +kernel
theorem dL_refuses_163 : decode cL_refuses 163 = .ok (.invokestatic 132, 3) := by decide +kernel
theorem dL_refuses_166 : decode cL_refuses 166 = .ok (.ldc 18, 2) := by decide +kernel
theorem dL_refuses_168 : decode cL_refuses 168 = .ok (.if_icmp .ne 478, 3) := by decide +kernel
theorem dL_refuses_171 : decode cL_refuses 171 = .ok (.aload_n 0, 1) := by decide +kernel
theorem dL_refuses_172 : decode cL_refuses 172 = .ok (.bipush 6, 2) := by decide +kernel
theorem dL_refuses_174 : decode cL_refuses 174 = .ok (.iload_n 1, 1) := by decide +kernel
theorem dL_refuses_175 : decode cL_refuses 175 = .ok (.iconst 2, 1) := by decide +kernel
theorem dL_refuses_176 : decode cL_refuses 176 = .ok (.irem, 1) := by decide +kernel
theorem dL_refuses_177 : decode cL_refuses 177 = .ok (.ifCond .ne 12, 3) := by decide +kernel
theorem dL_refuses_180 : decode cL_refuses 180 = .ok (.iconst 1, 1) := by decide +kernel
theorem dL_refuses_181 : decode cL_refuses 181 = .ok (.iload_n 1, 1) := by decide +kernel
theorem dL_refuses_182 : decode cL_refuses 182 = .ok (.bipush 9, 2) := by decide +kernel
theorem dL_refuses_184 : decode cL_refuses 184 = .ok (.irem, 1) := by decide +kernel
theorem dL_refuses_185 : decode cL_refuses 185 = .ok (.isub, 1) := by decide +kernel
theorem dL_refuses_186 : decode cL_refuses 186 = .ok (.goto 10, 3) := by decide +kernel
theorem dL_refuses_189 : decode cL_refuses 189 = .ok (.bipush 7, 2) := by decide +kernel
theorem dL_refuses_191 : decode cL_refuses 191 = .ok (.iload_n 1, 1) := by decide +kernel
theorem dL_refuses_192 : decode cL_refuses 192 = .ok (.bipush 9, 2) := by decide +kernel
theorem dL_refuses_194 : decode cL_refuses 194 = .ok (.irem, 1) := by decide +kernel
theorem dL_refuses_195 : decode cL_refuses 195 = .ok (.iadd, 1) := by decide +kernel
theorem dL_refuses_196 : decode cL_refuses 196 = .ok (.iconst 0, 1) := by decide +kernel
theorem dL_refuses_197 : decode cL_refuses 197 = .ok (.iconst 0, 1) := by decide +kernel
theorem dL_refuses_198 : decode cL_refuses 198 = .ok (.invokestatic 132, 3) := by decide +kernel
theorem dL_refuses_201 : decode cL_refuses 201 = .ok (.ldc 18, 2) := by decide +kernel
theorem dL_refuses_203 : decode cL_refuses 203 = .ok (.if_icmp .ne 443, 3) := by decide +kernel
theorem dL_refuses_206 : decode cL_refuses 206 = .ok (.aload_n 0, 1) := by decide +kernel
theorem dL_refuses_207 : decode cL_refuses 207 = .ok (.bipush 6, 2) := by decide +kernel
theorem dL_refuses_209 : decode cL_refuses 209 = .ok (.iconst 2, 1) := by decide +kernel
theorem dL_refuses_210 : decode cL_refuses 210 = .ok (.iload_n 1, 1) := by decide +kernel
theorem dL_refuses_211 : decode cL_refuses 211 = .ok (.iconst 5, 1) := by decide +kernel
theorem dL_refuses_212 : decode cL_refuses 212 = .ok (.irem, 1) := by decide +kernel
theorem dL_refuses_213 : decode cL_refuses 213 = .ok (.iadd, 1) := by decide +kernel
theorem dL_refuses_214 : decode cL_refuses 214 = .ok (.iconst (-1), 1) := by decide +kernel
theorem dL_refuses_215 : decode cL_refuses 215 = .ok (.iload_n 1, 1) := by decide +kernel
theorem dL_refuses_216 : decode cL_refuses 216 = .ok (.bipush 9, 2) := by decide +kernel
theorem dL_refuses_218 : decode cL_refuses 218 = .ok (.irem, 1) := by decide +kernel
theorem dL_refuses_219 : decode cL_refuses 219 = .ok (.isub, 1) := by decide +kernel
theorem dL_refuses_220 : decode cL_refuses 220 = .ok (.iconst 0, 1) := by decide +kernel
theorem dL_refuses_221 : decode cL_refuses 221 = .ok (.invokestatic 132, 3) := by decide +kernel
theorem dL_refuses_224 : decode cL_refuses 224 = .ok (.ldc 18, 2) := by decide +kernel
theorem dL_refuses_226 : decode cL_refuses 226 = .ok (.if_icmp .ne 420, 3) := by decide +kernel
theorem dL_refuses_229 : decode cL_refuses 229 = .ok (.aload_n 0, 1) := by decide +kernel
theorem dL_refuses_230 : decode cL_refuses 230 = .ok (.bipush 6, 2) := by decide +kernel
theorem dL_refuses_232 : decode cL_refuses 232 = .ok (.iconst 2, 1) := by decide +kernel
theorem dL_refuses_233 : decode cL_refuses 233 = .ok (.iload_n 1, 1) := by decide +kernel
theorem dL_refuses_234 : decode cL_refuses 234 = .ok (.iconst 5, 1) := by decide +kernel
theorem dL_refuses_235 : decode cL_refuses 235 = .ok (.irem, 1) := by decide +kernel
theorem dL_refuses_236 : decode cL_refuses 236 = .ok (.iadd, 1) := by decide +kernel
theorem dL_refuses_237 : decode cL_refuses 237 = .ok (.iconst 1, 1) := by decide +kernel
theorem dL_refuses_238 : decode cL_refuses 238 = .ok (.iconst 2, 1) := by decide +kernel
theorem dL_refuses_239 : decode cL_refuses 239 = .ok (.iconst 2, 1) := by decide +kernel
theorem dL_refuses_240 : decode cL_refuses 240 = .ok (.iload_n 1, 1) := by decide +kernel
theorem dL_refuses_241 : decode cL_refuses 241 = .ok (.iconst 5, 1) := by decide +kernel
theorem dL_refuses_242 : decode cL_refuses 242 = .ok (.irem, 1) := by decide +kernel
theorem dL_refuses_243 : decode cL_refuses 243 = .ok (.iadd, 1) := by decide +kernel
theorem dL_refuses_244 : decode cL_refuses 244 = .ok (.imul, 1) := by decide +kernel
theorem dL_refuses_245 : decode cL_refuses 245 = .ok (.ishl, 1) := by decide +kernel
theorem dL_refuses_246 : decode cL_refuses 246 = .ok (.iload_n 1, 1) := by decide +kernel
theorem dL_refuses_247 : decode cL_refuses 247 = .ok (.iadd, 1) := by decide +kernel
theorem dL_refuses_248 : decode cL_refuses 248 = .ok (.iconst 0, 1) := by decide +kernel
theorem dL_refuses_249 : decode cL_refuses 249 = .ok (.invokestatic 132, 3) := by decide +kernel
theorem dL_refuses_252 : decode cL_refuses 252 = .ok (.ldc 18, 2) := by decide +kernel
theorem dL_refuses_254 : decode cL_refuses 254 = .ok (.if_icmp .ne 392, 3) := by decide +kernel
theorem dL_refuses_257 : decode cL_refuses 257 = .ok (.aload_n 0, 1) := by decide +kernel
theorem dL_refuses_258 : decode cL_refuses 258 = .ok (.bipush 7, 2) := by decide +kernel
theorem dL_refuses_260 : decode cL_refuses 260 = .ok (.iload 4, 2) := by decide +kernel
theorem dL_refuses_262 : decode cL_refuses 262 = .ok (.iconst 0, 1) := by decide +kernel
theorem dL_refuses_263 : decode cL_refuses 263 = .ok (.iconst 1, 1) := by decide +kernel
theorem dL_refuses_264 : decode cL_refuses 264 = .ok (.invokestatic 132, 3) := by decide +kernel
theorem dL_refuses_267 : decode cL_refuses 267 = .ok (.ldc 15, 2) := by decide +kernel
theorem dL_refuses_269 : decode cL_refuses 269 = .ok (.if_icmp .ne 377, 3) := by decide +kernel
theorem dL_refuses_272 : decode cL_refuses 272 = .ok (.aload_n 0, 1) := by decide +kernel
theorem dL_refuses_273 : decode cL_refuses 273 = .ok (.bipush 7, 2) := by decide +kernel
theorem dL_refuses_275 : decode cL_refuses 275 = .ok (.iconst 0, 1) := by decide +kernel
theorem dL_refuses_276 : decode cL_refuses 276 = .ok (.iload 4, 2) := by decide +kernel
theorem dL_refuses_278 : decode cL_refuses 278 = .ok (.bipush 9, 2) := by decide +kernel
theorem dL_refuses_280 : decode cL_refuses 280 = .ok (.invokestatic 132, 3) := by decide +kernel
theorem dL_refuses_283 : decode cL_refuses 283 = .ok (.ldc 15, 2) := by decide +kernel
theorem dL_refuses_285 : decode cL_refuses 285 = .ok (.if_icmp .ne 361, 3) := by decide +kernel
theorem dL_refuses_288 : decode cL_refuses 288 = .ok (.aload_n 0, 1) := by decide +kernel
theorem dL_refuses_289 : decode cL_refuses 289 = .ok (.bipush 7, 2) := by decide +kernel
theorem dL_refuses_291 : decode cL_refuses 291 = .ok (.iload 5, 2) := by decide +kernel
theorem dL_refuses_293 : decode cL_refuses 293 = .ok (.iconst 0, 1) := by decide +kernel
theorem dL_refuses_294 : decode cL_refuses 294 = .ok (.iconst 1, 1) := by decide +kernel
theorem dL_refuses_295 : decode cL_refuses 295 = .ok (.invokestatic 132, 3) := by decide +kernel
theorem dL_refuses_298 : decode cL_refuses 298 = .ok (.ldc 18, 2) := by decide +kernel
theorem dL_refuses_300 : decode cL_refuses 300 = .ok (.if_icmp .ne 346, 3) := by decide +kernel
theorem dL_refuses_303 : decode cL_refuses 303 = .ok (.aload_n 0, 1) := by decide +kernel
theorem dL_refuses_304 : decode cL_refuses 304 = .ok (.bipush 7, 2) := by decide +kernel
theorem dL_refuses_306 : decode cL_refuses 306 = .ok (.iconst 0, 1) := by decide +kernel
theorem dL_refuses_307 : decode cL_refuses 307 = .ok (.iconst 0, 1) := by decide +kernel
theorem dL_refuses_308 : decode cL_refuses 308 = .ok (.iload_n 1, 1) := by decide +kernel
theorem dL_refuses_309 : decode cL_refuses 309 = .ok (.iconst 2, 1) := by decide +kernel
theorem dL_refuses_310 : decode cL_refuses 310 = .ok (.irem, 1) := by decide +kernel
theorem dL_refuses_311 : decode cL_refuses 311 = .ok (.ifCond .ne 7, 3) := by decide +kernel
theorem dL_refuses_314 : decode cL_refuses 314 = .ok (.iconst 0, 1) := by decide +kernel
theorem dL_refuses_315 : decode cL_refuses 315 = .ok (.goto 9, 3) := by decide +kernel
theorem dL_refuses_318 : decode cL_refuses 318 = .ok (.iconst 4, 1) := by decide +kernel
theorem dL_refuses_319 : decode cL_refuses 319 = .ok (.iload_n 1, 1) := by decide +kernel
theorem dL_refuses_320 : decode cL_refuses 320 = .ok (.bipush 9, 2) := by decide +kernel
theorem dL_refuses_322 : decode cL_refuses 322 = .ok (.irem, 1) := by decide +kernel
theorem dL_refuses_323 : decode cL_refuses 323 = .ok (.iadd, 1) := by decide +kernel
theorem dL_refuses_324 : decode cL_refuses 324 = .ok (.invokestatic 132, 3) := by decide +kernel
theorem dL_refuses_327 : decode cL_refuses 327 = .ok (.ldc 18, 2) := by decide +kernel
theorem dL_refuses_329 : decode cL_refuses 329 = .ok (.if_icmp .ne 317, 3) := by decide +kernel
theorem dL_refuses_332 : decode cL_refuses 332 = .ok (.iload_n 3, 1) := by decide +kernel
theorem dL_refuses_333 : decode cL_refuses 333 = .ok (.iload_n 2, 1) := by decide +kernel
theorem dL_refuses_334 : decode cL_refuses 334 = .ok (.if_icmp .ge 17, 3) := by decide +kernel
theorem dL_refuses_337 : decode cL_refuses 337 = .ok (.aload_n 0, 1) := by decide +kernel
theorem dL_refuses_338 : decode cL_refuses 338 = .ok (.bipush 7, 2) := by decide +kernel
theorem dL_refuses_340 : decode cL_refuses 340 = .ok (.iconst 0, 1) := by decide +kernel
theorem dL_refuses_341 : decode cL_refuses 341 = .ok (.iload_n 3, 1) := by decide +kernel
theorem dL_refuses_342 : decode cL_refuses 342 = .ok (.iconst 1, 1) := by decide +kernel
theorem dL_refuses_343 : decode cL_refuses 343 = .ok (.invokestatic 132, 3) := by decide +kernel
theorem dL_refuses_346 : decode cL_refuses 346 = .ok (.ldc 18, 2) := by decide +kernel
theorem dL_refuses_348 : decode cL_refuses 348 = .ok (.if_icmp .ne 298, 3) := by decide +kernel
theorem dL_refuses_351 : decode cL_refuses 351 = .ok (.aload_n 0, 1) := by decide +kernel
theorem dL_refuses_352 : decode cL_refuses 352 = .ok (.bipush 8, 2) := by decide +kernel
theorem dL_refuses_354 : decode cL_refuses 354 = .ok (.iload 4, 2) := by decide +kernel
theorem dL_refuses_356 : decode cL_refuses 356 = .ok (.iconst 0, 1) := by decide +kernel
theorem dL_refuses_357 : decode cL_refuses 357 = .ok (.iconst 0, 1) := by decide +kernel
theorem dL_refuses_358 : decode cL_refuses 358 = .ok (.invokestatic 132, 3) := by decide +kernel
theorem dL_refuses_361 : decode cL_refuses 361 = .ok (.ldc 15, 2) := by decide +kernel
theorem dL_refuses_363 : decode cL_refuses 363 = .ok (.if_icmp .ne 283, 3) := by decide +kernel
theorem dL_refuses_366 : decode cL_refuses 366 = .ok (.aload_n 0, 1) := by decide +kernel
theorem dL_refuses_367 : decode cL_refuses 367 = .ok (.bipush 9, 2) := by decide +kernel
theorem dL_refuses_369 : decode cL_refuses 369 = .ok (.iconst 3, 1) := by decide +kernel
theorem dL_refuses_370 : decode cL_refuses 370 = .ok (.iload_n 1, 1) := by decide +kernel
theorem dL_refuses_371 : decode cL_refuses 371 = .ok (.bipush 9, 2) := by decide +kernel
theorem dL_refuses_373 : decode cL_refuses 373 = .ok (.irem, 1) := by decide +kernel
theorem dL_refuses_374 : decode cL_refuses 374 = .ok (.iadd, 1) := by decide +kernel
theorem dL_refuses_375 : decode cL_refuses 375 = .ok (.iconst 0, 1) := by decide +kernel
theorem dL_refuses_376 : decode cL_refuses 376 = .ok (.iconst 0, 1) := by decide +kernel
theorem dL_refuses_377 : decode cL_refuses 377 = .ok (.invokestatic 132, 3) := by decide +kernel
theorem dL_refuses_380 : decode cL_refuses 380 = .ok (.ldc 18, 2) := by decide +kernel
theorem dL_refuses_382 : decode cL_refuses 382 = .ok (.if_icmp .ne 264, 3) := by decide +kernel
theorem dL_refuses_385 : decode cL_refuses 385 = .ok (.aload_n 0, 1) := by decide +kernel
theorem dL_refuses_386 : decode cL_refuses 386 = .ok (.bipush 10, 2) := by decide +kernel
theorem dL_refuses_388 : decode cL_refuses 388 = .ok (.iconst 0, 1) := by decide +kernel
theorem dL_refuses_389 : decode cL_refuses 389 = .ok (.iload_n 1, 1) := by decide +kernel
theorem dL_refuses_390 : decode cL_refuses 390 = .ok (.iconst 2, 1) := by decide +kernel
theorem dL_refuses_391 : decode cL_refuses 391 = .ok (.irem, 1) := by decide +kernel
theorem dL_refuses_392 : decode cL_refuses 392 = .ok (.ifCond .ne 7, 3) := by decide +kernel
theorem dL_refuses_395 : decode cL_refuses 395 = .ok (.iconst 0, 1) := by decide +kernel
theorem dL_refuses_396 : decode cL_refuses 396 = .ok (.goto 10, 3) := by decide +kernel
theorem dL_refuses_399 : decode cL_refuses 399 = .ok (.bipush 10, 2) := by decide +kernel
theorem dL_refuses_401 : decode cL_refuses 401 = .ok (.iload_n 1, 1) := by decide +kernel
theorem dL_refuses_402 : decode cL_refuses 402 = .ok (.bipush 9, 2) := by decide +kernel
theorem dL_refuses_404 : decode cL_refuses 404 = .ok (.irem, 1) := by decide +kernel
theorem dL_refuses_405 : decode cL_refuses 405 = .ok (.iadd, 1) := by decide +kernel
theorem dL_refuses_406 : decode cL_refuses 406 = .ok (.iconst 0, 1) := by decide +kernel
theorem dL_refuses_407 : decode cL_refuses 407 = .ok (.invokestatic 132, 3) := by decide +kernel
theorem dL_refuses_410 : decode cL_refuses 410 = .ok (.ldc 18, 2) := by decide +kernel
theorem dL_refuses_412 : decode cL_refuses 412 = .ok (.if_icmp .ne 234, 3) := by decide +kernel
theorem dL_refuses_415 : decode cL_refuses 415 = .ok (.aload_n 0, 1) := by decide +kernel
theorem dL_refuses_416 : decode cL_refuses 416 = .ok (.bipush 10, 2) := by decide +kernel
theorem dL_refuses_418 : decode cL_refuses 418 = .ok (.iconst 1, 1) := by decide +kernel
theorem dL_refuses_419 : decode cL_refuses 419 = .ok (.iload_n 1, 1) := by decide +kernel
theorem dL_refuses_420 : decode cL_refuses 420 = .ok (.iconst 2, 1) := by decide +kernel
theorem dL_refuses_421 : decode cL_refuses 421 = .ok (.irem, 1) := by decide +kernel
theorem dL_refuses_422 : decode cL_refuses 422 = .ok (.ifCond .ne 7, 3) := by decide +kernel
theorem dL_refuses_425 : decode cL_refuses 425 = .ok (.iconst 0, 1) := by decide +kernel
theorem dL_refuses_426 : decode cL_refuses 426 = .ok (.goto 9, 3) := by decide +kernel
theorem dL_refuses_429 : decode cL_refuses 429 = .ok (.iconst 4, 1) := by decide +kernel
theorem dL_refuses_430 : decode cL_refuses 430 = .ok (.iload_n 1, 1) := by decide +kernel
theorem dL_refuses_431 : decode cL_refuses 431 = .ok (.bipush 9, 2) := by decide +kernel
theorem dL_refuses_433 : decode cL_refuses 433 = .ok (.irem, 1) := by decide +kernel
theorem dL_refuses_434 : decode cL_refuses 434 = .ok (.iadd, 1) := by decide +kernel
theorem dL_refuses_435 : decode cL_refuses 435 = .ok (.iconst 0, 1) := by decide +kernel
theorem dL_refuses_436 : decode cL_refuses 436 = .ok (.invokestatic 132, 3) := by decide +kernel
theorem dL_refuses_439 : decode cL_refuses 439 = .ok (.ldc 18, 2) := by decide +kernel
theorem dL_refuses_441 : decode cL_refuses 441 = .ok (.if_icmp .ne 205, 3) := by decide +kernel
theorem dL_refuses_444 : decode cL_refuses 444 = .ok (.aload_n 0, 1) := by decide +kernel
theorem dL_refuses_445 : decode cL_refuses 445 = .ok (.bipush 10, 2) := by decide +kernel
theorem dL_refuses_447 : decode cL_refuses 447 = .ok (.iconst 2, 1) := by decide +kernel
theorem dL_refuses_448 : decode cL_refuses 448 = .ok (.iload_n 1, 1) := by decide +kernel
theorem dL_refuses_449 : decode cL_refuses 449 = .ok (.bipush 9, 2) := by decide +kernel
theorem dL_refuses_451 : decode cL_refuses 451 = .ok (.irem, 1) := by decide +kernel
theorem dL_refuses_452 : decode cL_refuses 452 = .ok (.iadd, 1) := by decide +kernel
theorem dL_refuses_453 : decode cL_refuses 453 = .ok (.iconst 1, 1) := by decide +kernel
theorem dL_refuses_454 : decode cL_refuses 454 = .ok (.iconst 0, 1) := by decide +kernel
theorem dL_refuses_455 : decode cL_refuses 455 = .ok (.invokestatic 132, 3) := by decide +kernel
theorem dL_refuses_458 : decode cL_refuses 458 = .ok (.ldc 18, 2) := by decide +kernel
theorem dL_refuses_460 : decode cL_refuses 460 = .ok (.if_icmp .ne 186, 3) := by decide +kernel
theorem dL_refuses_463 : decode cL_refuses 463 = .ok (.aload_n 0, 1) := by decide +kernel
theorem dL_refuses_464 : decode cL_refuses 464 = .ok (.iload 4, 2) := by decide +kernel
theorem dL_refuses_466 : decode cL_refuses 466 = .ok (.iconst 0, 1) := by decide +kernel
theorem dL_refuses_467 : decode cL_refuses 467 = .ok (.iconst 1, 1) := by decide +kernel
theorem dL_refuses_468 : decode cL_refuses 468 = .ok (.bipush 9, 2) := by decide +kernel
theorem dL_refuses_470 : decode cL_refuses 470 = .ok (.invokestatic 136, 3) := by decide +kernel
theorem dL_refuses_473 : decode cL_refuses 473 = .ok (.ldc 15, 2) := by decide +kernel
theorem dL_refuses_475 : decode cL_refuses 475 = .ok (.if_icmp .ne 171, 3) := by decide +kernel
theorem dL_refuses_478 : decode cL_refuses 478 = .ok (.aload_n 0, 1) := by decide +kernel
theorem dL_refuses_479 : decode cL_refuses 479 = .ok (.iconst 0, 1) := by decide +kernel
theorem dL_refuses_480 : decode cL_refuses 480 = .ok (.iconst 0, 1) := by decide +kernel
theorem dL_refuses_481 : decode cL_refuses 481 = .ok (.iconst 1, 1) := by decide +kernel
theorem dL_refuses_482 : decode cL_refuses 482 = .ok (.iconst 4, 1) := by decide +kernel
theorem dL_refuses_483 : decode cL_refuses 483 = .ok (.iload_n 1, 1) := by decide +kernel
theorem dL_refuses_484 : decode cL_refuses 484 = .ok (.bipush 9, 2) := by decide +kernel
theorem dL_refuses_486 : decode cL_refuses 486 = .ok (.irem, 1) := by decide +kernel
theorem dL_refuses_487 : decode cL_refuses 487 = .ok (.iadd, 1) := by decide +kernel
theorem dL_refuses_488 : decode cL_refuses 488 = .ok (.invokestatic 136, 3) := by decide +kernel
theorem dL_refuses_491 : decode cL_refuses 491 = .ok (.ldc 18, 2) := by decide +kernel
theorem dL_refuses_493 : decode cL_refuses 493 = .ok (.if_icmp .ne 153, 3) := by decide +kernel
theorem dL_refuses_496 : decode cL_refuses 496 = .ok (.aload_n 0, 1) := by decide +kernel
theorem dL_refuses_497 : decode cL_refuses 497 = .ok (.iload 5, 2) := by decide +kernel
theorem dL_refuses_499 : decode cL_refuses 499 = .ok (.iconst 0, 1) := by decide +kernel
theorem dL_refuses_500 : decode cL_refuses 500 = .ok (.iconst 1, 1) := by decide +kernel
theorem dL_refuses_501 : decode cL_refuses 501 = .ok (.iconst 0, 1) := by decide +kernel
theorem dL_refuses_502 : decode cL_refuses 502 = .ok (.invokestatic 136, 3) := by decide +kernel
theorem dL_refuses_505 : decode cL_refuses 505 = .ok (.ldc 18, 2) := by decide +kernel
theorem dL_refuses_507 : decode cL_refuses 507 = .ok (.if_icmp .ne 139, 3) := by decide +kernel
theorem dL_refuses_510 : decode cL_refuses 510 = .ok (.aload_n 0, 1) := by decide +kernel
theorem dL_refuses_511 : decode cL_refuses 511 = .ok (.bipush 12, 2) := by decide +kernel
theorem dL_refuses_513 : decode cL_refuses 513 = .ok (.iload_n 1, 1) := by decide +kernel
theorem dL_refuses_514 : decode cL_refuses 514 = .ok (.iconst 2, 1) := by decide +kernel
theorem dL_refuses_515 : decode cL_refuses 515 = .ok (.irem, 1) := by decide +kernel
theorem dL_refuses_516 : decode cL_refuses 516 = .ok (.ifCond .ne 7, 3) := by decide +kernel
theorem dL_refuses_519 : decode cL_refuses 519 = .ok (.iconst 0, 1) := by decide +kernel
theorem dL_refuses_520 : decode cL_refuses 520 = .ok (.goto 10, 3) := by decide +kernel
theorem dL_refuses_523 : decode cL_refuses 523 = .ok (.bipush 19, 2) := by decide +kernel
theorem dL_refuses_525 : decode cL_refuses 525 = .ok (.iload_n 1, 1) := by decide +kernel
theorem dL_refuses_526 : decode cL_refuses 526 = .ok (.bipush 9, 2) := by decide +kernel
theorem dL_refuses_528 : decode cL_refuses 528 = .ok (.irem, 1) := by decide +kernel
theorem dL_refuses_529 : decode cL_refuses 529 = .ok (.iadd, 1) := by decide +kernel
theorem dL_refuses_530 : decode cL_refuses 530 = .ok (.iconst 0, 1) := by decide +kernel
theorem dL_refuses_531 : decode cL_refuses 531 = .ok (.iconst 0, 1) := by decide +kernel
theorem dL_refuses_532 : decode cL_refuses 532 = .ok (.invokestatic 132, 3) := by decide +kernel
theorem dL_refuses_535 : decode cL_refuses 535 = .ok (.ldc 18, 2) := by decide +kernel
theorem dL_refuses_537 : decode cL_refuses 537 = .ok (.if_icmp .ne 109, 3) := by decide +kernel
theorem dL_refuses_540 : decode cL_refuses 540 = .ok (.aload_n 0, 1) := by decide +kernel
theorem dL_refuses_541 : decode cL_refuses 541 = .ok (.bipush 12, 2) := by decide +kernel
theorem dL_refuses_543 : decode cL_refuses 543 = .ok (.iconst 5, 1) := by decide +kernel
theorem dL_refuses_544 : decode cL_refuses 544 = .ok (.iconst 2, 1) := by decide +kernel
theorem dL_refuses_545 : decode cL_refuses 545 = .ok (.iload_n 1, 1) := by decide +kernel
theorem dL_refuses_546 : decode cL_refuses 546 = .ok (.bipush 9, 2) := by decide +kernel
theorem dL_refuses_548 : decode cL_refuses 548 = .ok (.irem, 1) := by decide +kernel
theorem dL_refuses_549 : decode cL_refuses 549 = .ok (.iadd, 1) := by decide +kernel
theorem dL_refuses_550 : decode cL_refuses 550 = .ok (.iconst 0, 1) := by decide +kernel
theorem dL_refuses_551 : decode cL_refuses 551 = .ok (.invokestatic 132, 3) := by decide +kernel
theorem dL_refuses_554 : decode cL_refuses 554 = .ok (.ldc 18, 2) := by decide +kernel
theorem dL_refuses_556 : decode cL_refuses 556 = .ok (.if_icmp .ne 90, 3) := by decide +kernel
theorem dL_refuses_559 : decode cL_refuses 559 = .ok (.aload_n 0, 1) := by decide +kernel
theorem dL_refuses_560 : decode cL_refuses 560 = .ok (.bipush 13, 2) := by decide +kernel
theorem dL_refuses_562 : decode cL_refuses 562 = .ok (.iconst 2, 1) := by decide +kernel
theorem dL_refuses_563 : decode cL_refuses 563 = .ok (.iload_n 1, 1) := by decide +kernel
theorem dL_refuses_564 : decode cL_refuses 564 = .ok (.bipush 50, 2) := by decide +kernel
theorem dL_refuses_566 : decode cL_refuses 566 = .ok (.irem, 1) := by decide +kernel
theorem dL_refuses_567 : decode cL_refuses 567 = .ok (.iadd, 1) := by decide +kernel
theorem dL_refuses_568 : decode cL_refuses 568 = .ok (.iconst 0, 1) := by decide +kernel
theorem dL_refuses_569 : decode cL_refuses 569 = .ok (.iconst 0, 1) := by decide +kernel
theorem dL_refuses_570 : decode cL_refuses 570 = .ok (.invokestatic 132, 3) := by decide +kernel
theorem dL_refuses_573 : decode cL_refuses 573 = .ok (.ldc 15, 2) := by decide +kernel
theorem dL_refuses_575 : decode cL_refuses 575 = .ok (.if_icmp .ne 71, 3) := by decide +kernel
theorem dL_refuses_578 : decode cL_refuses 578 = .ok (.aload_n 0, 1) := by decide +kernel
theorem dL_refuses_579 : decode cL_refuses 579 = .ok (.bipush 14, 2) := by decide +kernel
theorem dL_refuses_581 : decode cL_refuses 581 = .ok (.iconst (-1), 1) := by decide +kernel
theorem dL_refuses_582 : decode cL_refuses 582 = .ok (.iload_n 1, 1) := by decide +kernel
theorem dL_refuses_583 : decode cL_refuses 583 = .ok (.bipush 9, 2) := by decide +kernel
theorem dL_refuses_585 : decode cL_refuses 585 = .ok (.irem, 1) := by decide +kernel
theorem dL_refuses_586 : decode cL_refuses 586 = .ok (.isub, 1) := by decide +kernel
theorem dL_refuses_587 : decode cL_refuses 587 = .ok (.iconst 0, 1) := by decide +kernel
theorem dL_refuses_588 : decode cL_refuses 588 = .ok (.iconst 0, 1) := by decide +kernel
theorem dL_refuses_589 : decode cL_refuses 589 = .ok (.invokestatic 132, 3) := by decide +kernel
theorem dL_refuses_592 : decode cL_refuses 592 = .ok (.ldc 15, 2) := by decide +kernel
theorem dL_refuses_594 : decode cL_refuses 594 = .ok (.if_icmp .ne 52, 3) := by decide +kernel
theorem dL_refuses_597 : decode cL_refuses 597 = .ok (.aload_n 0, 1) := by decide +kernel
theorem dL_refuses_598 : decode cL_refuses 598 = .ok (.iconst 0, 1) := by decide +kernel
theorem dL_refuses_599 : decode cL_refuses 599 = .ok (.lconst 0, 1) := by decide +kernel
theorem dL_refuses_600 : decode cL_refuses 600 = .ok (.invokestatic 139, 3) := by decide +kernel
theorem dL_refuses_603 : decode cL_refuses 603 = .ok (.ldc 18, 2) := by decide +kernel
theorem dL_refuses_605 : decode cL_refuses 605 = .ok (.if_icmp .ne 41, 3) := by decide +kernel
theorem dL_refuses_608 : decode cL_refuses 608 = .ok (.aload_n 0, 1) := by decide +kernel
theorem dL_refuses_609 : decode cL_refuses 609 = .ok (.iconst 1, 1) := by decide +kernel
theorem dL_refuses_610 : decode cL_refuses 610 = .ok (.ldc2_w 143, 3) := by decide +kernel
theorem dL_refuses_613 : decode cL_refuses 613 = .ok (.iload_n 1, 1) := by decide +kernel
theorem dL_refuses_614 : decode cL_refuses 614 = .ok (.i2l, 1) := by decide +kernel
theorem dL_refuses_615 : decode cL_refuses 615 = .ok (.ladd, 1) := by decide +kernel
theorem dL_refuses_616 : decode cL_refuses 616 = .ok (.invokestatic 139, 3) := by decide +kernel
theorem dL_refuses_619 : decode cL_refuses 619 = .ok (.ldc 18, 2) := by decide +kernel
theorem dL_refuses_621 : decode cL_refuses 621 = .ok (.if_icmp .ne 25, 3) := by decide +kernel
theorem dL_refuses_624 : decode cL_refuses 624 = .ok (.aload_n 0, 1) := by decide +kernel
theorem dL_refuses_625 : decode cL_refuses 625 = .ok (.iload_n 1, 1) := by decide +kernel
theorem dL_refuses_626 : decode cL_refuses 626 = .ok (.i2l, 1) := by decide +kernel
theorem dL_refuses_627 : decode cL_refuses 627 = .ok (.bipush 61, 2) := by decide +kernel
theorem dL_refuses_629 : decode cL_refuses 629 = .ok (.iload_n 1, 1) := by decide +kernel
theorem dL_refuses_630 : decode cL_refuses 630 = .ok (.bipush 9, 2) := by decide +kernel
theorem dL_refuses_632 : decode cL_refuses 632 = .ok (.irem, 1) := by decide +kernel
theorem dL_refuses_633 : decode cL_refuses 633 = .ok (.iadd, 1) := by decide +kernel
theorem dL_refuses_634 : decode cL_refuses 634 = .ok (.invokestatic 145, 3) := by decide +kernel
theorem dL_refuses_637 : decode cL_refuses 637 = .ok (.ldc 18, 2) := by decide +kernel
theorem dL_refuses_639 : decode cL_refuses 639 = .ok (.if_icmp .ne 7, 3) := by decide +kernel
theorem dL_refuses_642 : decode cL_refuses 642 = .ok (.iconst 1, 1) := by decide +kernel
theorem dL_refuses_643 : decode cL_refuses 643 = .ok (.goto 4, 3) := by decide +kernel
theorem dL_refuses_646 : decode cL_refuses 646 = .ok (.iconst 0, 1) := by decide +kernel
theorem dL_refuses_647 : decode cL_refuses 647 = .ok (.ireturn, 1) := by decide +kernel
theorem dL_holds_0 : decode cL_holds 0 = .ok (.aload_n 0, 1) := by decide +kernel
theorem dL_holds_1 : decode cL_holds 1 = .ok (.iconst 2, 1) := by decide +kernel
theorem dL_holds_2 : decode cL_holds 2 = .ok (.iconst 0, 1) := by decide +kernel
theorem dL_holds_3 : decode cL_holds 3 = .ok (.iconst 0, 1) := by decide +kernel
theorem dL_holds_4 : decode cL_holds 4 = .ok (.iconst 0, 1) := by decide +kernel
theorem dL_holds_5 : decode cL_holds 5 = .ok (.invokestatic 132, 3) := by decide +kernel
theorem dL_holds_8 : decode cL_holds 8 = .ok (.istore_n 1, 1) := by decide +kernel
theorem dL_holds_9 : decode cL_holds 9 = .ok (.aload_n 0, 1) := by decide +kernel
theorem dL_holds_10 : decode cL_holds 10 = .ok (.iconst 5, 1) := by decide +kernel
theorem dL_holds_11 : decode cL_holds 11 = .ok (.iconst 1, 1) := by decide +kernel
theorem dL_holds_12 : decode cL_holds 12 = .ok (.iconst 0, 1) := by decide +kernel
theorem dL_holds_13 : decode cL_holds 13 = .ok (.iconst 0, 1) := by decide +kernel
theorem dL_holds_14 : decode cL_holds 14 = .ok (.invokestatic 132, 3) := by decide +kernel
theorem dL_holds_17 : decode cL_holds 17 = .ok (.istore_n 2, 1) := by decide +kernel
theorem dL_holds_18 : decode cL_holds 18 = .ok (.aload_n 0, 1) := by decide +kernel
theorem dL_holds_19 : decode cL_holds 19 = .ok (.invokevirtual 149, 3) := by decide +kernel
theorem dL_holds_22 : decode cL_holds 22 = .ok (.bipush 100, 2) := by decide +kernel
theorem dL_holds_24 : decode cL_holds 24 = .ok (.isub, 1) := by decide +kernel
theorem dL_holds_25 : decode cL_holds 25 = .ok (.istore_n 3, 1) := by decide +kernel
theorem dL_holds_26 : decode cL_holds 26 = .ok (.aload_n 0, 1) := by decide +kernel
theorem dL_holds_27 : decode cL_holds 27 = .ok (.invokevirtual 152, 3) := by decide +kernel
theorem dL_holds_30 : decode cL_holds 30 = .ok (.istore 4, 2) := by decide +kernel
theorem dL_holds_32 : decode cL_holds 32 = .ok (.iconst 0, 1) := by decide +kernel
theorem dL_holds_33 : decode cL_holds 33 = .ok (.istore 5, 2) := by decide +kernel
theorem dL_holds_35 : decode cL_holds 35 = .ok (.iconst 0, 1) := by decide +kernel
theorem dL_holds_36 : decode cL_holds 36 = .ok (.istore 6, 2) := by decide +kernel
theorem dL_holds_38 : decode cL_holds 38 = .ok (.iconst 0, 1) := by decide +kernel
theorem dL_holds_39 : decode cL_holds 39 = .ok (.istore 7, 2) := by decide +kernel
theorem dL_holds_41 : decode cL_holds 41 = .ok (.iload_n 1, 1) := by decide +kernel
theorem dL_holds_42 : decode cL_holds 42 = .ok (.iconst 1, 1) := by decide +kernel
theorem dL_holds_43 : decode cL_holds 43 = .ok (.isub, 1) := by decide +kernel
theorem dL_holds_44 : decode cL_holds 44 = .ok (.istore 8, 2) := by decide +kernel
theorem dL_holds_46 : decode cL_holds 46 = .ok (.iload 8, 2) := by decide +kernel
theorem dL_holds_48 : decode cL_holds 48 = .ok (.ifCond .lt 51, 3) := by decide +kernel
theorem dL_holds_51 : decode cL_holds 51 = .ok (.aload_n 0, 1) := by decide +kernel
theorem dL_holds_52 : decode cL_holds 52 = .ok (.iconst 3, 1) := by decide +kernel
theorem dL_holds_53 : decode cL_holds 53 = .ok (.iload 8, 2) := by decide +kernel
theorem dL_holds_55 : decode cL_holds 55 = .ok (.iconst 0, 1) := by decide +kernel
theorem dL_holds_56 : decode cL_holds 56 = .ok (.iconst 0, 1) := by decide +kernel
theorem dL_holds_57 : decode cL_holds 57 = .ok (.invokestatic 132, 3) := by decide +kernel
theorem dL_holds_60 : decode cL_holds 60 = .ok (.istore 9, 2) := by decide +kernel
theorem dL_holds_62 : decode cL_holds 62 = .ok (.iload 5, 2) := by decide +kernel
theorem dL_holds_64 : decode cL_holds 64 = .ok (.iload 9, 2) := by decide +kernel
theorem dL_holds_66 : decode cL_holds 66 = .ok (.iadd, 1) := by decide +kernel
theorem dL_holds_67 : decode cL_holds 67 = .ok (.istore 5, 2) := by decide +kernel
theorem dL_holds_69 : decode cL_holds 69 = .ok (.iload 6, 2) := by decide +kernel
theorem dL_holds_71 : decode cL_holds 71 = .ok (.iload 9, 2) := by decide +kernel
theorem dL_holds_73 : decode cL_holds 73 = .ok (.ifCond .ne 7, 3) := by decide +kernel
theorem dL_holds_76 : decode cL_holds 76 = .ok (.iconst 1, 1) := by decide +kernel
theorem dL_holds_77 : decode cL_holds 77 = .ok (.goto 4, 3) := by decide +kernel
theorem dL_holds_80 : decode cL_holds 80 = .ok (.iconst 0, 1) := by decide +kernel
theorem dL_holds_81 : decode cL_holds 81 = .ok (.iadd, 1) := by decide +kernel
theorem dL_holds_82 : decode cL_holds 82 = .ok (.istore 6, 2) := by decide +kernel
theorem dL_holds_84 : decode cL_holds 84 = .ok (.iconst 4, 1) := by decide +kernel
theorem dL_holds_85 : decode cL_holds 85 = .ok (.iload 7, 2) := by decide +kernel
theorem dL_holds_87 : decode cL_holds 87 = .ok (.imul, 1) := by decide +kernel
theorem dL_holds_88 : decode cL_holds 88 = .ok (.iload 9, 2) := by decide +kernel
theorem dL_holds_90 : decode cL_holds 90 = .ok (.iadd, 1) := by decide +kernel
theorem dL_holds_91 : decode cL_holds 91 = .ok (.istore 7, 2) := by decide +kernel
theorem dL_holds_93 : decode cL_holds 93 = .ok (.iinc 8 (-1), 3) := by decide +kernel
theorem dL_holds_96 : decode cL_holds 96 = .ok (.goto (-50), 3) := by decide +kernel
theorem dL_holds_99 : decode cL_holds 99 = .ok (.iconst 0, 1) := by decide +kernel
theorem dL_holds_100 : decode cL_holds 100 = .ok (.istore 8, 2) := by decide +kernel
theorem dL_holds_102 : decode cL_holds 102 = .ok (.iconst 0, 1) := by decide +kernel
theorem dL_holds_103 : decode cL_holds 103 = .ok (.istore 9, 2) := by decide +kernel
theorem dL_holds_105 : decode cL_holds 105 = .ok (.iload_n 1, 1) := by decide +kernel
theorem dL_holds_106 : decode cL_holds 106 = .ok (.iconst 2, 1) := by decide +kernel
theorem dL_holds_107 : decode cL_holds 107 = .ok (.if_icmp .lt 13, 3) := by decide +kernel
theorem dL_holds_110 : decode cL_holds 110 = .ok (.iload_n 1, 1) := by decide +kernel
theorem dL_holds_111 : decode cL_holds 111 = .ok (.bipush 6, 2) := by decide +kernel
theorem dL_holds_113 : decode cL_holds 113 = .ok (.if_icmp .gt 7, 3) := by decide +kernel
theorem dL_holds_116 : decode cL_holds 116 = .ok (.iconst 1, 1) := by decide +kernel
theorem dL_holds_117 : decode cL_holds 117 = .ok (.goto 4, 3) := by decide +kernel
theorem dL_holds_120 : decode cL_holds 120 = .ok (.iconst 0, 1) := by decide +kernel
theorem dL_holds_121 : decode cL_holds 121 = .ok (.istore 10, 2) := by decide +kernel
theorem dL_holds_123 : decode cL_holds 123 = .ok (.iconst 0, 1) := by decide +kernel
theorem dL_holds_124 : decode cL_holds 124 = .ok (.istore 11, 2) := by decide +kernel
theorem dL_holds_126 : decode cL_holds 126 = .ok (.iload 11, 2) := by decide +kernel
theorem dL_holds_128 : decode cL_holds 128 = .ok (.bipush 9, 2) := by decide +kernel
theorem dL_holds_130 : decode cL_holds 130 = .ok (.iload_n 1, 1) := by decide +kernel
theorem dL_holds_131 : decode cL_holds 131 = .ok (.imul, 1) := by decide +kernel
theorem dL_holds_132 : decode cL_holds 132 = .ok (.if_icmp .ge 187, 3) := by decide +kernel
theorem dL_holds_135 : decode cL_holds 135 = .ok (.iload 10, 2) := by decide +kernel
theorem dL_holds_137 : decode cL_holds 137 = .ok (.ifCond .eq 182, 3) := by decide +kernel
theorem dL_holds_140 : decode cL_holds 140 = .ok (.iload 11, 2) := by decide +kernel
theorem dL_holds_142 : decode cL_holds 142 = .ok (.bipush 9, 2) := by decide +kernel
theorem dL_holds_144 : decode cL_holds 144 = .ok (.idiv, 1) := by decide +kernel
theorem dL_holds_145 : decode cL_holds 145 = .ok (.istore 12, 2) := by decide +kernel
theorem dL_holds_147 : decode cL_holds 147 = .ok (.iload 12, 2) := by decide +kernel
theorem dL_holds_149 : decode cL_holds 149 = .ok (.iload 11, 2) := by decide +kernel
theorem dL_holds_151 : decode cL_holds 151 = .ok (.iconst 3, 1) := by decide +kernel
theorem dL_holds_152 : decode cL_holds 152 = .ok (.idiv, 1) := by decide +kernel
theorem dL_holds_153 : decode cL_holds 153 = .ok (.iconst 3, 1) := by decide +kernel
theorem dL_holds_154 : decode cL_holds 154 = .ok (.irem, 1) := by decide +kernel
theorem dL_holds_155 : decode cL_holds 155 = .ok (.iadd, 1) := by decide +kernel
theorem dL_holds_156 : decode cL_holds 156 = .ok (.istore 13, 2) := by decide +kernel
theorem dL_holds_158 : decode cL_holds 158 = .ok (.iconst 1, 1) := by decide +kernel
theorem dL_holds_159 : decode cL_holds 159 = .ok (.iload 11, 2) := by decide +kernel
theorem dL_holds_161 : decode cL_holds 161 = .ok (.iconst 3, 1) := by decide +kernel
theorem dL_holds_162 : decode cL_holds 162 = .ok (.irem, 1) := by decide +kernel
theorem dL_holds_163 : decode cL_holds 163 = .ok (.iadd, 1) := by decide +kernel
theorem dL_holds_164 : decode cL_holds 164 = .ok (.istore 14, 2) := by decide +kernel
theorem dL_holds_166 : decode cL_holds 166 = .ok (.iload 13, 2) := by decide +kernel
theorem dL_holds_168 : decode cL_holds 168 = .ok (.iload_n 1, 1) := by decide +kernel
theorem dL_holds_169 : decode cL_holds 169 = .ok (.if_icmp .ge 12, 3) := by decide +kernel
theorem dL_holds_172 : decode cL_holds 172 = .ok (.iload 13, 2) := by decide +kernel
theorem dL_holds_174 : decode cL_holds 174 = .ok (.iload 12, 2) := by decide +kernel
theorem dL_holds_176 : decode cL_holds 176 = .ok (.isub, 1) := by decide +kernel
theorem dL_holds_177 : decode cL_holds 177 = .ok (.iload_n 2, 1) := by decide +kernel
theorem dL_holds_178 : decode cL_holds 178 = .ok (.if_icmp .lt 7, 3) := by decide +kernel
theorem dL_holds_181 : decode cL_holds 181 = .ok (.iconst (-1), 1) := by decide +kernel
theorem dL_holds_182 : decode cL_holds 182 = .ok (.goto 14, 3) := by decide +kernel
theorem dL_holds_185 : decode cL_holds 185 = .ok (.aload_n 0, 1) := by decide +kernel
theorem dL_holds_186 : decode cL_holds 186 = .ok (.iload 12, 2) := by decide +kernel
theorem dL_holds_188 : decode cL_holds 188 = .ok (.iload 13, 2) := by decide +kernel
theorem dL_holds_190 : decode cL_holds 190 = .ok (.iload 14, 2) := by decide +kernel
theorem dL_holds_192 : decode cL_holds 192 = .ok (.iconst 0, 1) := by decide +kernel
theorem dL_holds_193 : decode cL_holds 193 = .ok (.invokestatic 136, 3) := by decide +kernel
theorem dL_holds_196 : decode cL_holds 196 = .ok (.istore 15, 2) := by decide +kernel
theorem dL_holds_198 : decode cL_holds 198 = .ok (.iload 15, 2) := by decide +kernel
theorem dL_holds_200 : decode cL_holds 200 = .ok (.iconst (-1), 1) := by decide +kernel
theorem dL_holds_201 : decode cL_holds 201 = .ok (.if_icmp .eq 112, 3) := by decide +kernel
theorem dL_holds_204 : decode cL_holds 204 = .ok (.bipush 100, 2) := by decide +kernel
theorem dL_holds_206 : decode cL_holds 206 = .ok (.aload_n 0, 1) := by decide +kernel
theorem dL_holds_207 : decode cL_holds 207 = .ok (.iload 12, 2) := by decide +kernel
theorem dL_holds_209 : decode cL_holds 209 = .ok (.iload 13, 2) := by decide +kernel
theorem dL_holds_211 : decode cL_holds 211 = .ok (.iload 14, 2) := by decide +kernel
theorem dL_holds_213 : decode cL_holds 213 = .ok (.iconst 2, 1) := by decide +kernel
theorem dL_holds_214 : decode cL_holds 214 = .ok (.invokestatic 136, 3) := by decide +kernel
theorem dL_holds_217 : decode cL_holds 217 = .ok (.isub, 1) := by decide +kernel
theorem dL_holds_218 : decode cL_holds 218 = .ok (.iload 15, 2) := by decide +kernel
theorem dL_holds_220 : decode cL_holds 220 = .ok (.isub, 1) := by decide +kernel
theorem dL_holds_221 : decode cL_holds 221 = .ok (.istore 16, 2) := by decide +kernel
theorem dL_holds_223 : decode cL_holds 223 = .ok (.bipush 100, 2) := by decide +kernel
theorem dL_holds_225 : decode cL_holds 225 = .ok (.iload 12, 2) := by decide +kernel
theorem dL_holds_227 : decode cL_holds 227 = .ok (.imul, 1) := by decide +kernel
theorem dL_holds_228 : decode cL_holds 228 = .ok (.bipush 10, 2) := by decide +kernel
theorem dL_holds_230 : decode cL_holds 230 = .ok (.iload 13, 2) := by decide +kernel
theorem dL_holds_232 : decode cL_holds 232 = .ok (.imul, 1) := by decide +kernel
theorem dL_holds_233 : decode cL_holds 233 = .ok (.iadd, 1) := by decide +kernel
theorem dL_holds_234 : decode cL_holds 234 = .ok (.iload 14, 2) := by decide +kernel
theorem dL_holds_236 : decode cL_holds 236 = .ok (.iadd, 1) := by decide +kernel
theorem dL_holds_237 : decode cL_holds 237 = .ok (.istore 17, 2) := by decide +kernel
theorem dL_holds_239 : decode cL_holds 239 = .ok (.iinc 8 1, 3) := by decide +kernel
theorem dL_holds_242 : decode cL_holds 242 = .ok (.iload 9, 2) := by decide +kernel
theorem dL_holds_244 : decode cL_holds 244 = .ok (.iload 16, 2) := by decide +kernel
theorem dL_holds_246 : decode cL_holds 246 = .ok (.iload_n 3, 1) := by decide +kernel
theorem dL_holds_247 : decode cL_holds 247 = .ok (.if_icmp .ne 7, 3) := by decide +kernel
theorem dL_holds_250 : decode cL_holds 250 = .ok (.iconst 1, 1) := by decide +kernel
theorem dL_holds_251 : decode cL_holds 251 = .ok (.goto 4, 3) := by decide +kernel
theorem dL_holds_254 : decode cL_holds 254 = .ok (.iconst 0, 1) := by decide +kernel
theorem dL_holds_255 : decode cL_holds 255 = .ok (.iadd, 1) := by decide +kernel
theorem dL_holds_256 : decode cL_holds 256 = .ok (.istore 9, 2) := by decide +kernel
theorem dL_holds_258 : decode cL_holds 258 = .ok (.iload 16, 2) := by decide +kernel
theorem dL_holds_260 : decode cL_holds 260 = .ok (.iload_n 3, 1) := by decide +kernel
theorem dL_holds_261 : decode cL_holds 261 = .ok (.if_icmp .gt 49, 3) := by decide +kernel
theorem dL_holds_264 : decode cL_holds 264 = .ok (.iload 16, 2) := by decide +kernel
theorem dL_holds_266 : decode cL_holds 266 = .ok (.iload_n 3, 1) := by decide +kernel
theorem dL_holds_267 : decode cL_holds 267 = .ok (.if_icmp .lt 10, 3) := by decide +kernel
theorem dL_holds_270 : decode cL_holds 270 = .ok (.iload 17, 2) := by decide +kernel
theorem dL_holds_272 : decode cL_holds 272 = .ok (.iload 4, 2) := by decide +kernel
theorem dL_holds_274 : decode cL_holds 274 = .ok (.if_icmp .lt 36, 3) := by decide +kernel
theorem dL_holds_277 : decode cL_holds 277 = .ok (.iload 17, 2) := by decide +kernel
theorem dL_holds_279 : decode cL_holds 279 = .ok (.iload 4, 2) := by decide +kernel
theorem dL_holds_281 : decode cL_holds 281 = .ok (.if_icmp .ne 9, 3) := by decide +kernel
theorem dL_holds_284 : decode cL_holds 284 = .ok (.iload 16, 2) := by decide +kernel
theorem dL_holds_286 : decode cL_holds 286 = .ok (.iload_n 3, 1) := by decide +kernel
theorem dL_holds_287 : decode cL_holds 287 = .ok (.if_icmp .ne 23, 3) := by decide +kernel
theorem dL_holds_290 : decode cL_holds 290 = .ok (.aload_n 0, 1) := by decide +kernel
theorem dL_holds_291 : decode cL_holds 291 = .ok (.iload 12, 2) := by decide +kernel
theorem dL_holds_293 : decode cL_holds 293 = .ok (.iload 13, 2) := by decide +kernel
theorem dL_holds_295 : decode cL_holds 295 = .ok (.iload 14, 2) := by decide +kernel
theorem dL_holds_297 : decode cL_holds 297 = .ok (.iconst 1, 1) := by decide +kernel
theorem dL_holds_298 : decode cL_holds 298 = .ok (.invokestatic 136, 3) := by decide +kernel
theorem dL_holds_301 : decode cL_holds 301 = .ok (.iload 7, 2) := by decide +kernel
theorem dL_holds_303 : decode cL_holds 303 = .ok (.if_icmp .ge 7, 3) := by decide +kernel
theorem dL_holds_306 : decode cL_holds 306 = .ok (.iconst 1, 1) := by decide +kernel
theorem dL_holds_307 : decode cL_holds 307 = .ok (.goto 4, 3) := by decide +kernel
theorem dL_holds_310 : decode cL_holds 310 = .ok (.iconst 0, 1) := by decide +kernel
theorem dL_holds_311 : decode cL_holds 311 = .ok (.istore 10, 2) := by decide +kernel
theorem dL_holds_313 : decode cL_holds 313 = .ok (.iinc 11 1, 3) := by decide +kernel
theorem dL_holds_316 : decode cL_holds 316 = .ok (.goto (-190), 3) := by decide +kernel
theorem dL_holds_319 : decode cL_holds 319 = .ok (.aload_n 0, 1) := by decide +kernel
theorem dL_holds_320 : decode cL_holds 320 = .ok (.iconst 2, 1) := by decide +kernel
theorem dL_holds_321 : decode cL_holds 321 = .ok (.bipush 6, 2) := by decide +kernel
theorem dL_holds_323 : decode cL_holds 323 = .ok (.iconst 0, 1) := by decide +kernel
theorem dL_holds_324 : decode cL_holds 324 = .ok (.iconst 0, 1) := by decide +kernel
theorem dL_holds_325 : decode cL_holds 325 = .ok (.invokestatic 132, 3) := by decide +kernel
theorem dL_holds_328 : decode cL_holds 328 = .ok (.istore 11, 2) := by decide +kernel
theorem dL_holds_330 : decode cL_holds 330 = .ok (.aload_n 0, 1) := by decide +kernel
theorem dL_holds_331 : decode cL_holds 331 = .ok (.iconst 2, 1) := by decide +kernel
theorem dL_holds_332 : decode cL_holds 332 = .ok (.iconst 4, 1) := by decide +kernel
theorem dL_holds_333 : decode cL_holds 333 = .ok (.iconst 0, 1) := by decide +kernel
theorem dL_holds_334 : decode cL_holds 334 = .ok (.iconst 0, 1) := by decide +kernel
theorem dL_holds_335 : decode cL_holds 335 = .ok (.invokestatic 132, 3) := by decide +kernel
theorem dL_holds_338 : decode cL_holds 338 = .ok (.istore 12, 2) := by decide +kernel
theorem dL_holds_340 : decode cL_holds 340 = .ok (.aload_n 0, 1) := by decide +kernel
theorem dL_holds_341 : decode cL_holds 341 = .ok (.iconst 4, 1) := by decide +kernel
theorem dL_holds_342 : decode cL_holds 342 = .ok (.iconst 1, 1) := by decide +kernel
theorem dL_holds_343 : decode cL_holds 343 = .ok (.iload 12, 2) := by decide +kernel
theorem dL_holds_345 : decode cL_holds 345 = .ok (.isub, 1) := by decide +kernel
theorem dL_holds_346 : decode cL_holds 346 = .ok (.iconst 0, 1) := by decide +kernel
theorem dL_holds_347 : decode cL_holds 347 = .ok (.iconst 0, 1) := by decide +kernel
theorem dL_holds_348 : decode cL_holds 348 = .ok (.invokestatic 132, 3) := by decide +kernel
theorem dL_holds_351 : decode cL_holds 351 = .ok (.aload_n 0, 1) := by decide +kernel
theorem dL_holds_352 : decode cL_holds 352 = .ok (.iconst 4, 1) := by decide +kernel
theorem dL_holds_353 : decode cL_holds 353 = .ok (.iload 12, 2) := by decide +kernel
theorem dL_holds_355 : decode cL_holds 355 = .ok (.iconst 0, 1) := by decide +kernel
theorem dL_holds_356 : decode cL_holds 356 = .ok (.iconst 0, 1) := by decide +kernel
theorem dL_holds_357 : decode cL_holds 357 = .ok (.invokestatic 132, 3) := by decide +kernel
theorem dL_holds_360 : decode cL_holds 360 = .ok (.isub, 1) := by decide +kernel
theorem dL_holds_361 : decode cL_holds 361 = .ok (.iload_n 3, 1) := by decide +kernel
theorem dL_holds_362 : decode cL_holds 362 = .ok (.iadd, 1) := by decide +kernel
theorem dL_holds_363 : decode cL_holds 363 = .ok (.istore 13, 2) := by decide +kernel
theorem dL_holds_365 : decode cL_holds 365 = .ok (.aload_n 0, 1) := by decide +kernel
theorem dL_holds_366 : decode cL_holds 366 = .ok (.bipush 12, 2) := by decide +kernel
theorem dL_holds_368 : decode cL_holds 368 = .ok (.bipush 18, 2) := by decide +kernel
theorem dL_holds_370 : decode cL_holds 370 = .ok (.iconst 1, 1) := by decide +kernel
theorem dL_holds_371 : decode cL_holds 371 = .ok (.iconst 0, 1) := by decide +kernel
theorem dL_holds_372 : decode cL_holds 372 = .ok (.invokestatic 132, 3) := by decide +kernel
theorem dL_holds_375 : decode cL_holds 375 = .ok (.istore 14, 2) := by decide +kernel
theorem dL_holds_377 : decode cL_holds 377 = .ok (.iload 10, 2) := by decide +kernel
theorem dL_holds_379 : decode cL_holds 379 = .ok (.ifCond .eq 225, 3) := by decide +kernel
theorem dL_holds_382 : decode cL_holds 382 = .ok (.aload_n 0, 1) := by decide +kernel
theorem dL_holds_383 : decode cL_holds 383 = .ok (.iconst 2, 1) := by decide +kernel
theorem dL_holds_384 : decode cL_holds 384 = .ok (.iconst 1, 1) := by decide +kernel
theorem dL_holds_385 : decode cL_holds 385 = .ok (.iconst 0, 1) := by decide +kernel
theorem dL_holds_386 : decode cL_holds 386 = .ok (.iconst 0, 1) := by decide +kernel
theorem dL_holds_387 : decode cL_holds 387 = .ok (.invokestatic 132, 3) := by decide +kernel
theorem dL_holds_390 : decode cL_holds 390 = .ok (.iload 5, 2) := by decide +kernel
theorem dL_holds_392 : decode cL_holds 392 = .ok (.if_icmp .ne 212, 3) := by decide +kernel
theorem dL_holds_395 : decode cL_holds 395 = .ok (.aload_n 0, 1) := by decide +kernel
theorem dL_holds_396 : decode cL_holds 396 = .ok (.iconst 2, 1) := by decide +kernel
theorem dL_holds_397 : decode cL_holds 397 = .ok (.iconst 2, 1) := by decide +kernel
theorem dL_holds_398 : decode cL_holds 398 = .ok (.iconst 0, 1) := by decide +kernel
theorem dL_holds_399 : decode cL_holds 399 = .ok (.iconst 0, 1) := by decide +kernel
theorem dL_holds_400 : decode cL_holds 400 = .ok (.invokestatic 132, 3) := by decide +kernel
theorem dL_holds_403 : decode cL_holds 403 = .ok (.iload 6, 2) := by decide +kernel
theorem dL_holds_405 : decode cL_holds 405 = .ok (.if_icmp .ne 199, 3) := by decide +kernel
theorem dL_holds_408 : decode cL_holds 408 = .ok (.aload_n 0, 1) := by decide +kernel
theorem dL_holds_409 : decode cL_holds 409 = .ok (.iconst 2, 1) := by decide +kernel
theorem dL_holds_410 : decode cL_holds 410 = .ok (.bipush 7, 2) := by decide +kernel
theorem dL_holds_412 : decode cL_holds 412 = .ok (.iconst 0, 1) := by decide +kernel
theorem dL_holds_413 : decode cL_holds 413 = .ok (.iconst 0, 1) := by decide +kernel
theorem dL_holds_414 : decode cL_holds 414 = .ok (.invokestatic 132, 3) := by decide +kernel
theorem dL_holds_417 : decode cL_holds 417 = .ok (.iload 7, 2) := by decide +kernel
theorem dL_holds_419 : decode cL_holds 419 = .ok (.if_icmp .ne 185, 3) := by decide +kernel
theorem dL_holds_422 : decode cL_holds 422 = .ok (.aload_n 0, 1) := by decide +kernel
theorem dL_holds_423 : decode cL_holds 423 = .ok (.iconst 2, 1) := by decide +kernel
theorem dL_holds_424 : decode cL_holds 424 = .ok (.bipush 8, 2) := by decide +kernel
theorem dL_holds_426 : decode cL_holds 426 = .ok (.iconst 0, 1) := by decide +kernel
theorem dL_holds_427 : decode cL_holds 427 = .ok (.iconst 0, 1) := by decide +kernel
theorem dL_holds_428 : decode cL_holds 428 = .ok (.invokestatic 132, 3) := by decide +kernel
theorem dL_holds_431 : decode cL_holds 431 = .ok (.iload 8, 2) := by decide +kernel
theorem dL_holds_433 : decode cL_holds 433 = .ok (.if_icmp .ne 171, 3) := by decide +kernel
theorem dL_holds_436 : decode cL_holds 436 = .ok (.aload_n 0, 1) := by decide +kernel
theorem dL_holds_437 : decode cL_holds 437 = .ok (.invokevirtual 155, 3) := by decide +kernel
theorem dL_holds_440 : decode cL_holds 440 = .ok (.iload 9, 2) := by decide +kernel
theorem dL_holds_442 : decode cL_holds 442 = .ok (.if_icmp .ne 162, 3) := by decide +kernel
theorem dL_holds_445 : decode cL_holds 445 = .ok (.iload 11, 2) := by decide +kernel
theorem dL_holds_447 : decode cL_holds 447 = .ok (.iconst 1, 1) := by decide +kernel
theorem dL_holds_448 : decode cL_holds 448 = .ok (.if_icmp .ne 7, 3) := by decide +kernel
theorem dL_holds_451 : decode cL_holds 451 = .ok (.iconst 1, 1) := by decide +kernel
theorem dL_holds_452 : decode cL_holds 452 = .ok (.goto 4, 3) := by decide +kernel
theorem dL_holds_455 : decode cL_holds 455 = .ok (.iconst 0, 1) := by decide +kernel
theorem dL_holds_456 : decode cL_holds 456 = .ok (.iload 5, 2) := by decide +kernel
theorem dL_holds_458 : decode cL_holds 458 = .ok (.ifCond .ne 7, 3) := by decide +kernel
theorem dL_holds_461 : decode cL_holds 461 = .ok (.iconst 1, 1) := by decide +kernel
theorem dL_holds_462 : decode cL_holds 462 = .ok (.goto 4, 3) := by decide +kernel
theorem dL_holds_465 : decode cL_holds 465 = .ok (.iconst 0, 1) := by decide +kernel
theorem dL_holds_466 : decode cL_holds 466 = .ok (.if_icmp .ne 138, 3) := by decide +kernel
theorem dL_holds_469 : decode cL_holds 469 = .ok (.iload 4, 2) := by decide +kernel
theorem dL_holds_471 : decode cL_holds 471 = .ok (.iconst (-1), 1) := by decide +kernel
theorem dL_holds_472 : decode cL_holds 472 = .ok (.if_icmp .ne 7, 3) := by decide +kernel
theorem dL_holds_475 : decode cL_holds 475 = .ok (.iconst 1, 1) := by decide +kernel
theorem dL_holds_476 : decode cL_holds 476 = .ok (.goto 4, 3) := by decide +kernel
theorem dL_holds_479 : decode cL_holds 479 = .ok (.iconst 0, 1) := by decide +kernel
theorem dL_holds_480 : decode cL_holds 480 = .ok (.iload 11, 2) := by decide +kernel
theorem dL_holds_482 : decode cL_holds 482 = .ok (.iconst 1, 1) := by decide +kernel
theorem dL_holds_483 : decode cL_holds 483 = .ok (.if_icmp .ne 7, 3) := by decide +kernel
theorem dL_holds_486 : decode cL_holds 486 = .ok (.iconst 1, 1) := by decide +kernel
theorem dL_holds_487 : decode cL_holds 487 = .ok (.goto 4, 3) := by decide +kernel
theorem dL_holds_490 : decode cL_holds 490 = .ok (.iconst 0, 1) := by decide +kernel
theorem dL_holds_491 : decode cL_holds 491 = .ok (.if_icmp .ne 113, 3) := by decide +kernel
theorem dL_holds_494 : decode cL_holds 494 = .ok (.iload 11, 2) := by decide +kernel
theorem dL_holds_496 : decode cL_holds 496 = .ok (.ifCond .eq 12, 3) := by decide +kernel
theorem dL_holds_499 : decode cL_holds 499 = .ok (.iload_n 3, 1) := by decide +kernel
theorem dL_holds_500 : decode cL_holds 500 = .ok (.ifCond .ne 104, 3) := by decide +kernel
theorem dL_holds_503 : decode cL_holds 503 = .ok (.iload 8, 2) := by decide +kernel
theorem dL_holds_505 : decode cL_holds 505 = .ok (.ifCond .ne 99, 3) := by decide +kernel
theorem dL_holds_508 : decode cL_holds 508 = .ok (.aload_n 0, 1) := by decide +kernel
theorem dL_holds_509 : decode cL_holds 509 = .ok (.iconst 2, 1) := by decide +kernel
theorem dL_holds_510 : decode cL_holds 510 = .ok (.iconst 5, 1) := by decide +kernel
theorem dL_holds_511 : decode cL_holds 511 = .ok (.iconst 0, 1) := by decide +kernel
theorem dL_holds_512 : decode cL_holds 512 = .ok (.iconst 0, 1) := by decide +kernel
theorem dL_holds_513 : decode cL_holds 513 = .ok (.invokestatic 132, 3) := by decide +kernel
theorem dL_holds_516 : decode cL_holds 516 = .ok (.aload_n 0, 1) := by decide +kernel
theorem dL_holds_517 : decode cL_holds 517 = .ok (.iconst 4, 1) := by decide +kernel
theorem dL_holds_518 : decode cL_holds 518 = .ok (.iconst 0, 1) := by decide +kernel
theorem dL_holds_519 : decode cL_holds 519 = .ok (.iconst 1, 1) := by decide +kernel
theorem dL_holds_520 : decode cL_holds 520 = .ok (.iconst 0, 1) := by decide +kernel
theorem dL_holds_521 : decode cL_holds 521 = .ok (.invokestatic 132, 3) := by decide +kernel
theorem dL_holds_524 : decode cL_holds 524 = .ok (.aload_n 0, 1) := by decide +kernel
theorem dL_holds_525 : decode cL_holds 525 = .ok (.iconst 4, 1) := by decide +kernel
theorem dL_holds_526 : decode cL_holds 526 = .ok (.iconst 1, 1) := by decide +kernel
theorem dL_holds_527 : decode cL_holds 527 = .ok (.iconst 1, 1) := by decide +kernel
theorem dL_holds_528 : decode cL_holds 528 = .ok (.iconst 0, 1) := by decide +kernel
theorem dL_holds_529 : decode cL_holds 529 = .ok (.invokestatic 132, 3) := by decide +kernel
theorem dL_holds_532 : decode cL_holds 532 = .ok (.iadd, 1) := by decide +kernel
theorem dL_holds_533 : decode cL_holds 533 = .ok (.if_icmp .ne 71, 3) := by decide +kernel
theorem dL_holds_536 : decode cL_holds 536 = .ok (.aload_n 0, 1) := by decide +kernel
theorem dL_holds_537 : decode cL_holds 537 = .ok (.invokevirtual 158, 3) := by decide +kernel
theorem dL_holds_540 : decode cL_holds 540 = .ok (.iload 13, 2) := by decide +kernel
theorem dL_holds_542 : decode cL_holds 542 = .ok (.ifCond .le 8, 3) := by decide +kernel
theorem dL_holds_545 : decode cL_holds 545 = .ok (.iload 12, 2) := by decide +kernel
theorem dL_holds_547 : decode cL_holds 547 = .ok (.goto 16, 3) := by decide +kernel
theorem dL_holds_550 : decode cL_holds 550 = .ok (.iload 13, 2) := by decide +kernel
theorem dL_holds_552 : decode cL_holds 552 = .ok (.ifCond .ge 10, 3) := by decide +kernel
theorem dL_holds_555 : decode cL_holds 555 = .ok (.iconst 1, 1) := by decide +kernel
theorem dL_holds_556 : decode cL_holds 556 = .ok (.iload 12, 2) := by decide +kernel
theorem dL_holds_558 : decode cL_holds 558 = .ok (.isub, 1) := by decide +kernel
theorem dL_holds_559 : decode cL_holds 559 = .ok (.goto 4, 3) := by decide +kernel
theorem dL_holds_562 : decode cL_holds 562 = .ok (.iconst 2, 1) := by decide +kernel
theorem dL_holds_563 : decode cL_holds 563 = .ok (.if_icmp .ne 41, 3) := by decide +kernel
theorem dL_holds_566 : decode cL_holds 566 = .ok (.iload 14, 2) := by decide +kernel
theorem dL_holds_568 : decode cL_holds 568 = .ok (.iload 5, 2) := by decide +kernel
theorem dL_holds_570 : decode cL_holds 570 = .ok (.if_icmp .gt 34, 3) := by decide +kernel
theorem dL_holds_573 : decode cL_holds 573 = .ok (.iload 14, 2) := by decide +kernel
theorem dL_holds_575 : decode cL_holds 575 = .ok (.bipush 18, 2) := by decide +kernel
theorem dL_holds_577 : decode cL_holds 577 = .ok (.if_icmp .gt 27, 3) := by decide +kernel
theorem dL_holds_580 : decode cL_holds 580 = .ok (.aload_n 0, 1) := by decide +kernel
theorem dL_holds_581 : decode cL_holds 581 = .ok (.bipush 12, 2) := by decide +kernel
theorem dL_holds_583 : decode cL_holds 583 = .ok (.bipush 18, 2) := by decide +kernel
theorem dL_holds_585 : decode cL_holds 585 = .ok (.iconst 0, 1) := by decide +kernel
theorem dL_holds_586 : decode cL_holds 586 = .ok (.iconst 0, 1) := by decide +kernel
theorem dL_holds_587 : decode cL_holds 587 = .ok (.invokestatic 132, 3) := by decide +kernel
theorem dL_holds_590 : decode cL_holds 590 = .ok (.ifCond .eq 10, 3) := by decide +kernel
theorem dL_holds_593 : decode cL_holds 593 = .ok (.iload 14, 2) := by decide +kernel
theorem dL_holds_595 : decode cL_holds 595 = .ok (.bipush 18, 2) := by decide +kernel
theorem dL_holds_597 : decode cL_holds 597 = .ok (.if_icmp .ne 7, 3) := by decide +kernel
theorem dL_holds_600 : decode cL_holds 600 = .ok (.iconst 1, 1) := by decide +kernel
theorem dL_holds_601 : decode cL_holds 601 = .ok (.goto 4, 3) := by decide +kernel
theorem dL_holds_604 : decode cL_holds 604 = .ok (.iconst 0, 1) := by decide +kernel
theorem dL_holds_605 : decode cL_holds 605 = .ok (.ireturn, 1) := by decide +kernel
theorem dL_act_0 : decode cL_act 0 = .ok (.iload_n 1, 1) := by decide +kernel
theorem dL_act_1 : decode cL_act 1 = .ok (.bipush 16, 2) := by decide +kernel
theorem dL_act_3 : decode cL_act 3 = .ok (.idiv, 1) := by decide +kernel
theorem dL_act_4 : decode cL_act 4 = .ok (.istore_n 2, 1) := by decide +kernel
theorem dL_act_5 : decode cL_act 5 = .ok (.aload_n 0, 1) := by decide +kernel
theorem dL_act_6 : decode cL_act 6 = .ok (.iconst 2, 1) := by decide +kernel
theorem dL_act_7 : decode cL_act 7 = .ok (.iconst 0, 1) := by decide +kernel
theorem dL_act_8 : decode cL_act 8 = .ok (.iconst 0, 1) := by decide +kernel
theorem dL_act_9 : decode cL_act 9 = .ok (.iconst 0, 1) := by decide +kernel
theorem dL_act_10 : decode cL_act 10 = .ok (.invokestatic 132, 3) := by decide +kernel
theorem dL_act_13 : decode cL_act 13 = .ok (.istore_n 3, 1) := by decide +kernel
theorem dL_act_14 : decode cL_act 14 = .ok (.aload_n 0, 1) := by decide +kernel
theorem dL_act_15 : decode cL_act 15 = .ok (.iconst 5, 1) := by decide +kernel
theorem dL_act_16 : decode cL_act 16 = .ok (.iconst 1, 1) := by decide +kernel
theorem dL_act_17 : decode cL_act 17 = .ok (.iconst 0, 1) := by decide +kernel
theorem dL_act_18 : decode cL_act 18 = .ok (.iconst 0, 1) := by decide +kernel
theorem dL_act_19 : decode cL_act 19 = .ok (.invokestatic 132, 3) := by decide +kernel
theorem dL_act_22 : decode cL_act 22 = .ok (.istore 4, 2) := by decide +kernel
theorem dL_act_24 : decode cL_act 24 = .ok (.iload_n 2, 1) := by decide +kernel
theorem dL_act_25 : decode cL_act 25 = .ok (.iload_n 3, 1) := by decide +kernel
theorem dL_act_26 : decode cL_act 26 = .ok (.irem, 1) := by decide +kernel
theorem dL_act_27 : decode cL_act 27 = .ok (.istore 5, 2) := by decide +kernel
theorem dL_act_29 : decode cL_act 29 = .ok (.iload_n 1, 1) := by decide +kernel
theorem dL_act_30 : decode cL_act 30 = .ok (.bipush 16, 2) := by decide +kernel
theorem dL_act_32 : decode cL_act 32 = .ok (.irem, 1) := by decide +kernel
theorem dL_act_33 : decode cL_act 33 = .ok (.tableswitch 190 0 9 #[55, 81, 81, 81, 81, 92, 104, 109, 144, 154], 55) := by decide +kernel
theorem dL_act_88 : decode cL_act 88 = .ok (.aload_n 0, 1) := by decide +kernel
theorem dL_act_89 : decode cL_act 89 = .ok (.bipush 6, 2) := by decide +kernel
theorem dL_act_91 : decode cL_act 91 = .ok (.iconst 2, 1) := by decide +kernel
theorem dL_act_92 : decode cL_act 92 = .ok (.iload_n 2, 1) := by decide +kernel
theorem dL_act_93 : decode cL_act 93 = .ok (.iconst 3, 1) := by decide +kernel
theorem dL_act_94 : decode cL_act 94 = .ok (.irem, 1) := by decide +kernel
theorem dL_act_95 : decode cL_act 95 = .ok (.iadd, 1) := by decide +kernel
theorem dL_act_96 : decode cL_act 96 = .ok (.iload_n 2, 1) := by decide +kernel
theorem dL_act_97 : decode cL_act 97 = .ok (.iconst 3, 1) := by decide +kernel
theorem dL_act_98 : decode cL_act 98 = .ok (.idiv, 1) := by decide +kernel
theorem dL_act_99 : decode cL_act 99 = .ok (.iconst 1, 1) := by decide +kernel
theorem dL_act_100 : decode cL_act 100 = .ok (.iconst 2, 1) := by decide +kernel
theorem dL_act_101 : decode cL_act 101 = .ok (.iconst 2, 1) := by decide +kernel
theorem dL_act_102 : decode cL_act 102 = .ok (.iload_n 2, 1) := by decide +kernel
theorem dL_act_103 : decode cL_act 103 = .ok (.iconst 3, 1) := by decide +kernel
theorem dL_act_104 : decode cL_act 104 = .ok (.irem, 1) := by decide +kernel
theorem dL_act_105 : decode cL_act 105 = .ok (.iadd, 1) := by decide +kernel
theorem dL_act_106 : decode cL_act 106 = .ok (.imul, 1) := by decide +kernel
theorem dL_act_107 : decode cL_act 107 = .ok (.ishl, 1) := by decide +kernel
theorem dL_act_108 : decode cL_act 108 = .ok (.irem, 1) := by decide +kernel
theorem dL_act_109 : decode cL_act 109 = .ok (.iconst 0, 1) := by decide +kernel
theorem dL_act_110 : decode cL_act 110 = .ok (.invokestatic 132, 3) := by decide +kernel
theorem dL_act_113 : decode cL_act 113 = .ok (.ireturn, 1) := by decide +kernel
theorem dL_act_114 : decode cL_act 114 = .ok (.aload_n 0, 1) := by decide +kernel
theorem dL_act_115 : decode cL_act 115 = .ok (.bipush 8, 2) := by decide +kernel
theorem dL_act_117 : decode cL_act 117 = .ok (.iload 5, 2) := by decide +kernel
theorem dL_act_119 : decode cL_act 119 = .ok (.iconst 0, 1) := by decide +kernel
theorem dL_act_120 : decode cL_act 120 = .ok (.iconst 0, 1) := by decide +kernel
theorem dL_act_121 : decode cL_act 121 = .ok (.invokestatic 132, 3) := by decide +kernel
theorem dL_act_124 : decode cL_act 124 = .ok (.ireturn, 1) := by decide +kernel
theorem dL_act_125 : decode cL_act 125 = .ok (.aload_n 0, 1) := by decide +kernel
theorem dL_act_126 : decode cL_act 126 = .ok (.bipush 9, 2) := by decide +kernel
theorem dL_act_128 : decode cL_act 128 = .ok (.iload_n 2, 1) := by decide +kernel
theorem dL_act_129 : decode cL_act 129 = .ok (.iconst 3, 1) := by decide +kernel
theorem dL_act_130 : decode cL_act 130 = .ok (.irem, 1) := by decide +kernel
theorem dL_act_131 : decode cL_act 131 = .ok (.iconst 0, 1) := by decide +kernel
theorem dL_act_132 : decode cL_act 132 = .ok (.iconst 0, 1) := by decide +kernel
theorem dL_act_133 : decode cL_act 133 = .ok (.invokestatic 132, 3) := by decide +kernel
theorem dL_act_136 : decode cL_act 136 = .ok (.ireturn, 1) := by decide +kernel
theorem dL_act_137 : decode cL_act 137 = .ok (.aload_n 0, 1) := by decide +kernel
theorem dL_act_138 : decode cL_act 138 = .ok (.invokevirtual 161, 3) := by decide +kernel
theorem dL_act_141 : decode cL_act 141 = .ok (.ireturn, 1) := by decide +kernel
theorem dL_act_142 : decode cL_act 142 = .ok (.aload_n 0, 1) := by decide +kernel
theorem dL_act_143 : decode cL_act 143 = .ok (.bipush 10, 2) := by decide +kernel
theorem dL_act_145 : decode cL_act 145 = .ok (.iload_n 2, 1) := by decide +kernel
theorem dL_act_146 : decode cL_act 146 = .ok (.iconst 2, 1) := by decide +kernel
theorem dL_act_147 : decode cL_act 147 = .ok (.irem, 1) := by decide +kernel
theorem dL_act_148 : decode cL_act 148 = .ok (.iload_n 2, 1) := by decide +kernel
theorem dL_act_149 : decode cL_act 149 = .ok (.iconst 2, 1) := by decide +kernel
theorem dL_act_150 : decode cL_act 150 = .ok (.irem, 1) := by decide +kernel
theorem dL_act_151 : decode cL_act 151 = .ok (.ifCond .ne 14, 3) := by decide +kernel
theorem dL_act_154 : decode cL_act 154 = .ok (.iconst 1, 1) := by decide +kernel
theorem dL_act_155 : decode cL_act 155 = .ok (.iload_n 2, 1) := by decide +kernel
theorem dL_act_156 : decode cL_act 156 = .ok (.iconst 2, 1) := by decide +kernel
theorem dL_act_157 : decode cL_act 157 = .ok (.idiv, 1) := by decide +kernel
theorem dL_act_158 : decode cL_act 158 = .ok (.bipush 9, 2) := by decide +kernel
theorem dL_act_160 : decode cL_act 160 = .ok (.irem, 1) := by decide +kernel
theorem dL_act_161 : decode cL_act 161 = .ok (.iadd, 1) := by decide +kernel
theorem dL_act_162 : decode cL_act 162 = .ok (.goto 10, 3) := by decide +kernel
theorem dL_act_165 : decode cL_act 165 = .ok (.iconst 1, 1) := by decide +kernel
theorem dL_act_166 : decode cL_act 166 = .ok (.iload_n 2, 1) := by decide +kernel
theorem dL_act_167 : decode cL_act 167 = .ok (.iconst 2, 1) := by decide +kernel
theorem dL_act_168 : decode cL_act 168 = .ok (.idiv, 1) := by decide +kernel
theorem dL_act_169 : decode cL_act 169 = .ok (.iconst 3, 1) := by decide +kernel
theorem dL_act_170 : decode cL_act 170 = .ok (.irem, 1) := by decide +kernel
theorem dL_act_171 : decode cL_act 171 = .ok (.iadd, 1) := by decide +kernel
theorem dL_act_172 : decode cL_act 172 = .ok (.iconst 0, 1) := by decide +kernel
theorem dL_act_173 : decode cL_act 173 = .ok (.invokestatic 132, 3) := by decide +kernel
theorem dL_act_176 : decode cL_act 176 = .ok (.ireturn, 1) := by decide +kernel
theorem dL_act_177 : decode cL_act 177 = .ok (.aload_n 0, 1) := by decide +kernel
theorem dL_act_178 : decode cL_act 178 = .ok (.bipush 11, 2) := by decide +kernel
theorem dL_act_180 : decode cL_act 180 = .ok (.iconst 0, 1) := by decide +kernel
theorem dL_act_181 : decode cL_act 181 = .ok (.iconst 0, 1) := by decide +kernel
theorem dL_act_182 : decode cL_act 182 = .ok (.iconst 0, 1) := by decide +kernel
theorem dL_act_183 : decode cL_act 183 = .ok (.invokestatic 132, 3) := by decide +kernel
theorem dL_act_186 : decode cL_act 186 = .ok (.ireturn, 1) := by decide +kernel
theorem dL_act_187 : decode cL_act 187 = .ok (.iload_n 2, 1) := by decide +kernel
theorem dL_act_188 : decode cL_act 188 = .ok (.iconst 2, 1) := by decide +kernel
theorem dL_act_189 : decode cL_act 189 = .ok (.irem, 1) := by decide +kernel
theorem dL_act_190 : decode cL_act 190 = .ok (.ifCond .ne 19, 3) := by decide +kernel
theorem dL_act_193 : decode cL_act 193 = .ok (.aload_n 0, 1) := by decide +kernel
theorem dL_act_194 : decode cL_act 194 = .ok (.bipush 13, 2) := by decide +kernel
theorem dL_act_196 : decode cL_act 196 = .ok (.iload_n 2, 1) := by decide +kernel
theorem dL_act_197 : decode cL_act 197 = .ok (.iconst 2, 1) := by decide +kernel
theorem dL_act_198 : decode cL_act 198 = .ok (.idiv, 1) := by decide +kernel
theorem dL_act_199 : decode cL_act 199 = .ok (.iconst 2, 1) := by decide +kernel
theorem dL_act_200 : decode cL_act 200 = .ok (.irem, 1) := by decide +kernel
theorem dL_act_201 : decode cL_act 201 = .ok (.iconst 0, 1) := by decide +kernel
theorem dL_act_202 : decode cL_act 202 = .ok (.iconst 0, 1) := by decide +kernel
theorem dL_act_203 : decode cL_act 203 = .ok (.invokestatic 132, 3) := by decide +kernel
theorem dL_act_206 : decode cL_act 206 = .ok (.goto 16, 3) := by decide +kernel
theorem dL_act_209 : decode cL_act 209 = .ok (.aload_n 0, 1) := by decide +kernel
theorem dL_act_210 : decode cL_act 210 = .ok (.bipush 14, 2) := by decide +kernel
theorem dL_act_212 : decode cL_act 212 = .ok (.iload_n 2, 1) := by decide +kernel
theorem dL_act_213 : decode cL_act 213 = .ok (.iconst 2, 1) := by decide +kernel
theorem dL_act_214 : decode cL_act 214 = .ok (.idiv, 1) := by decide +kernel
theorem dL_act_215 : decode cL_act 215 = .ok (.iconst 2, 1) := by decide +kernel
theorem dL_act_216 : decode cL_act 216 = .ok (.irem, 1) := by decide +kernel
theorem dL_act_217 : decode cL_act 217 = .ok (.iconst 0, 1) := by decide +kernel
theorem dL_act_218 : decode cL_act 218 = .ok (.iconst 0, 1) := by decide +kernel
theorem dL_act_219 : decode cL_act 219 = .ok (.invokestatic 132, 3) := by decide +kernel
theorem dL_act_222 : decode cL_act 222 = .ok (.ireturn, 1) := by decide +kernel
theorem dL_act_223 : decode cL_act 223 = .ok (.aload_n 0, 1) := by decide +kernel
theorem dL_act_224 : decode cL_act 224 = .ok (.bipush 7, 2) := by decide +kernel
theorem dL_act_226 : decode cL_act 226 = .ok (.iload 5, 2) := by decide +kernel
theorem dL_act_228 : decode cL_act 228 = .ok (.iload 5, 2) := by decide +kernel
theorem dL_act_230 : decode cL_act 230 = .ok (.iload_n 2, 1) := by decide +kernel
theorem dL_act_231 : decode cL_act 231 = .ok (.bipush 8, 2) := by decide +kernel
theorem dL_act_233 : decode cL_act 233 = .ok (.idiv, 1) := by decide +kernel
theorem dL_act_234 : decode cL_act 234 = .ok (.iload 4, 2) := by decide +kernel
theorem dL_act_236 : decode cL_act 236 = .ok (.irem, 1) := by decide +kernel
theorem dL_act_237 : decode cL_act 237 = .ok (.iadd, 1) := by decide +kernel
theorem dL_act_238 : decode cL_act 238 = .ok (.iconst 1, 1) := by decide +kernel
theorem dL_act_239 : decode cL_act 239 = .ok (.iload_n 2, 1) := by decide +kernel
theorem dL_act_240 : decode cL_act 240 = .ok (.bipush 32, 2) := by decide +kernel
theorem dL_act_242 : decode cL_act 242 = .ok (.idiv, 1) := by decide +kernel
theorem dL_act_243 : decode cL_act 243 = .ok (.iconst 3, 1) := by decide +kernel
theorem dL_act_244 : decode cL_act 244 = .ok (.irem, 1) := by decide +kernel
theorem dL_act_245 : decode cL_act 245 = .ok (.iadd, 1) := by decide +kernel
theorem dL_act_246 : decode cL_act 246 = .ok (.invokestatic 132, 3) := by decide +kernel
theorem dL_act_249 : decode cL_act 249 = .ok (.ireturn, 1) := by decide +kernel
theorem dL_alike_0 : decode cL_alike 0 = .ok (.aload_n 0, 1) := by decide +kernel
theorem dL_alike_1 : decode cL_alike 1 = .ok (.iload_n 2, 1) := by decide +kernel
theorem dL_alike_2 : decode cL_alike 2 = .ok (.i2l, 1) := by decide +kernel
theorem dL_alike_3 : decode cL_alike 3 = .ok (.iconst 1, 1) := by decide +kernel
theorem dL_alike_4 : decode cL_alike 4 = .ok (.iload_n 2, 1) := by decide +kernel
theorem dL_alike_5 : decode cL_alike 5 = .ok (.bipush 30, 2) := by decide +kernel
theorem dL_alike_7 : decode cL_alike 7 = .ok (.irem, 1) := by decide +kernel
theorem dL_alike_8 : decode cL_alike 8 = .ok (.iadd, 1) := by decide +kernel
theorem dL_alike_9 : decode cL_alike 9 = .ok (.invokestatic 145, 3) := by decide +kernel
theorem dL_alike_12 : decode cL_alike 12 = .ok (.aload_n 1, 1) := by decide +kernel
theorem dL_alike_13 : decode cL_alike 13 = .ok (.iload_n 2, 1) := by decide +kernel
theorem dL_alike_14 : decode cL_alike 14 = .ok (.i2l, 1) := by decide +kernel
theorem dL_alike_15 : decode cL_alike 15 = .ok (.iconst 1, 1) := by decide +kernel
theorem dL_alike_16 : decode cL_alike 16 = .ok (.iload_n 2, 1) := by decide +kernel
theorem dL_alike_17 : decode cL_alike 17 = .ok (.bipush 30, 2) := by decide +kernel
theorem dL_alike_19 : decode cL_alike 19 = .ok (.irem, 1) := by decide +kernel
theorem dL_alike_20 : decode cL_alike 20 = .ok (.iadd, 1) := by decide +kernel
theorem dL_alike_21 : decode cL_alike 21 = .ok (.invokestatic 145, 3) := by decide +kernel
theorem dL_alike_24 : decode cL_alike 24 = .ok (.if_icmp .ne 29, 3) := by decide +kernel
theorem dL_alike_27 : decode cL_alike 27 = .ok (.aload_n 0, 1) := by decide +kernel
theorem dL_alike_28 : decode cL_alike 28 = .ok (.invokevirtual 149, 3) := by decide +kernel
theorem dL_alike_31 : decode cL_alike 31 = .ok (.aload_n 1, 1) := by decide +kernel
theorem dL_alike_32 : decode cL_alike 32 = .ok (.invokevirtual 149, 3) := by decide +kernel
theorem dL_alike_35 : decode cL_alike 35 = .ok (.if_icmp .ne 18, 3) := by decide +kernel
theorem dL_alike_38 : decode cL_alike 38 = .ok (.aload_n 0, 1) := by decide +kernel
theorem dL_alike_39 : decode cL_alike 39 = .ok (.invokevirtual 164, 3) := by decide +kernel
theorem dL_alike_42 : decode cL_alike 42 = .ok (.aload_n 1, 1) := by decide +kernel
theorem dL_alike_43 : decode cL_alike 43 = .ok (.invokevirtual 164, 3) := by decide +kernel
theorem dL_alike_46 : decode cL_alike 46 = .ok (.if_icmp .ne 7, 3) := by decide +kernel
theorem dL_alike_49 : decode cL_alike 49 = .ok (.iconst 1, 1) := by decide +kernel
theorem dL_alike_50 : decode cL_alike 50 = .ok (.goto 4, 3) := by decide +kernel
theorem dL_alike_53 : decode cL_alike 53 = .ok (.iconst 0, 1) := by decide +kernel
theorem dL_alike_54 : decode cL_alike 54 = .ok (.istore_n 3, 1) := by decide +kernel
theorem dL_alike_55 : decode cL_alike 55 = .ok (.iconst 0, 1) := by decide +kernel
theorem dL_alike_56 : decode cL_alike 56 = .ok (.istore 4, 2) := by decide +kernel
theorem dL_alike_58 : decode cL_alike 58 = .ok (.iload 4, 2) := by decide +kernel
theorem dL_alike_60 : decode cL_alike 60 = .ok (.bipush 9, 2) := by decide +kernel
theorem dL_alike_62 : decode cL_alike 62 = .ok (.if_icmp .ge 113, 3) := by decide +kernel
theorem dL_alike_65 : decode cL_alike 65 = .ok (.iload_n 3, 1) := by decide +kernel
theorem dL_alike_66 : decode cL_alike 66 = .ok (.ifCond .eq 109, 3) := by decide +kernel
theorem dL_alike_69 : decode cL_alike 69 = .ok (.aload_n 0, 1) := by decide +kernel
theorem dL_alike_70 : decode cL_alike 70 = .ok (.iconst 2, 1) := by decide +kernel
theorem dL_alike_71 : decode cL_alike 71 = .ok (.iload 4, 2) := by decide +kernel
theorem dL_alike_73 : decode cL_alike 73 = .ok (.iconst 0, 1) := by decide +kernel
theorem dL_alike_74 : decode cL_alike 74 = .ok (.iconst 0, 1) := by decide +kernel
theorem dL_alike_75 : decode cL_alike 75 = .ok (.invokestatic 132, 3) := by decide +kernel
theorem dL_alike_78 : decode cL_alike 78 = .ok (.aload_n 1, 1) := by decide +kernel
theorem dL_alike_79 : decode cL_alike 79 = .ok (.iconst 2, 1) := by decide +kernel
theorem dL_alike_80 : decode cL_alike 80 = .ok (.iload 4, 2) := by decide +kernel
theorem dL_alike_82 : decode cL_alike 82 = .ok (.iconst 0, 1) := by decide +kernel
theorem dL_alike_83 : decode cL_alike 83 = .ok (.iconst 0, 1) := by decide +kernel
theorem dL_alike_84 : decode cL_alike 84 = .ok (.invokestatic 132, 3) := by decide +kernel
theorem dL_alike_87 : decode cL_alike 87 = .ok (.if_icmp .ne 80, 3) := by decide +kernel
theorem dL_alike_90 : decode cL_alike 90 = .ok (.aload_n 0, 1) := by decide +kernel
theorem dL_alike_91 : decode cL_alike 91 = .ok (.iconst 5, 1) := by decide +kernel
theorem dL_alike_92 : decode cL_alike 92 = .ok (.iload 4, 2) := by decide +kernel
theorem dL_alike_94 : decode cL_alike 94 = .ok (.iconst 0, 1) := by decide +kernel
theorem dL_alike_95 : decode cL_alike 95 = .ok (.iconst 0, 1) := by decide +kernel
theorem dL_alike_96 : decode cL_alike 96 = .ok (.invokestatic 132, 3) := by decide +kernel
theorem dL_alike_99 : decode cL_alike 99 = .ok (.aload_n 1, 1) := by decide +kernel
theorem dL_alike_100 : decode cL_alike 100 = .ok (.iconst 5, 1) := by decide +kernel
theorem dL_alike_101 : decode cL_alike 101 = .ok (.iload 4, 2) := by decide +kernel
theorem dL_alike_103 : decode cL_alike 103 = .ok (.iconst 0, 1) := by decide +kernel
theorem dL_alike_104 : decode cL_alike 104 = .ok (.iconst 0, 1) := by decide +kernel
theorem dL_alike_105 : decode cL_alike 105 = .ok (.invokestatic 132, 3) := by decide +kernel
theorem dL_alike_108 : decode cL_alike 108 = .ok (.if_icmp .ne 59, 3) := by decide +kernel
theorem dL_alike_111 : decode cL_alike 111 = .ok (.aload_n 0, 1) := by decide +kernel
theorem dL_alike_112 : decode cL_alike 112 = .ok (.iconst 3, 1) := by decide +kernel
theorem dL_alike_113 : decode cL_alike 113 = .ok (.iload 4, 2) := by decide +kernel
theorem dL_alike_115 : decode cL_alike 115 = .ok (.iconst 0, 1) := by decide +kernel
theorem dL_alike_116 : decode cL_alike 116 = .ok (.iconst 0, 1) := by decide +kernel
theorem dL_alike_117 : decode cL_alike 117 = .ok (.invokestatic 132, 3) := by decide +kernel
theorem dL_alike_120 : decode cL_alike 120 = .ok (.aload_n 1, 1) := by decide +kernel
theorem dL_alike_121 : decode cL_alike 121 = .ok (.iconst 3, 1) := by decide +kernel
theorem dL_alike_122 : decode cL_alike 122 = .ok (.iload 4, 2) := by decide +kernel
theorem dL_alike_124 : decode cL_alike 124 = .ok (.iconst 0, 1) := by decide +kernel
theorem dL_alike_125 : decode cL_alike 125 = .ok (.iconst 0, 1) := by decide +kernel
theorem dL_alike_126 : decode cL_alike 126 = .ok (.invokestatic 132, 3) := by decide +kernel
theorem dL_alike_129 : decode cL_alike 129 = .ok (.if_icmp .ne 38, 3) := by decide +kernel
theorem dL_alike_132 : decode cL_alike 132 = .ok (.aload_n 0, 1) := by decide +kernel
theorem dL_alike_133 : decode cL_alike 133 = .ok (.iconst 4, 1) := by decide +kernel
theorem dL_alike_134 : decode cL_alike 134 = .ok (.iload 4, 2) := by decide +kernel
theorem dL_alike_136 : decode cL_alike 136 = .ok (.iconst 2, 1) := by decide +kernel
theorem dL_alike_137 : decode cL_alike 137 = .ok (.irem, 1) := by decide +kernel
theorem dL_alike_138 : decode cL_alike 138 = .ok (.iload 4, 2) := by decide +kernel
theorem dL_alike_140 : decode cL_alike 140 = .ok (.iconst 2, 1) := by decide +kernel
theorem dL_alike_141 : decode cL_alike 141 = .ok (.idiv, 1) := by decide +kernel
theorem dL_alike_142 : decode cL_alike 142 = .ok (.iconst 0, 1) := by decide +kernel
theorem dL_alike_143 : decode cL_alike 143 = .ok (.invokestatic 132, 3) := by decide +kernel
theorem dL_alike_146 : decode cL_alike 146 = .ok (.aload_n 1, 1) := by decide +kernel
theorem dL_alike_147 : decode cL_alike 147 = .ok (.iconst 4, 1) := by decide +kernel
theorem dL_alike_148 : decode cL_alike 148 = .ok (.iload 4, 2) := by decide +kernel
theorem dL_alike_150 : decode cL_alike 150 = .ok (.iconst 2, 1) := by decide +kernel
theorem dL_alike_151 : decode cL_alike 151 = .ok (.irem, 1) := by decide +kernel
theorem dL_alike_152 : decode cL_alike 152 = .ok (.iload 4, 2) := by decide +kernel
theorem dL_alike_154 : decode cL_alike 154 = .ok (.iconst 2, 1) := by decide +kernel
theorem dL_alike_155 : decode cL_alike 155 = .ok (.idiv, 1) := by decide +kernel
theorem dL_alike_156 : decode cL_alike 156 = .ok (.iconst 0, 1) := by decide +kernel
theorem dL_alike_157 : decode cL_alike 157 = .ok (.invokestatic 132, 3) := by decide +kernel
theorem dL_alike_160 : decode cL_alike 160 = .ok (.if_icmp .ne 7, 3) := by decide +kernel
theorem dL_alike_163 : decode cL_alike 163 = .ok (.iconst 1, 1) := by decide +kernel
theorem dL_alike_164 : decode cL_alike 164 = .ok (.goto 4, 3) := by decide +kernel
theorem dL_alike_167 : decode cL_alike 167 = .ok (.iconst 0, 1) := by decide +kernel
theorem dL_alike_168 : decode cL_alike 168 = .ok (.istore_n 3, 1) := by decide +kernel
theorem dL_alike_169 : decode cL_alike 169 = .ok (.iinc 4 1, 3) := by decide +kernel
theorem dL_alike_172 : decode cL_alike 172 = .ok (.goto (-114), 3) := by decide +kernel
theorem dL_alike_175 : decode cL_alike 175 = .ok (.iload_n 3, 1) := by decide +kernel
theorem dL_alike_176 : decode cL_alike 176 = .ok (.ireturn, 1) := by decide +kernel
theorem dL_law_0 : decode cL_law 0 = .ok (.new 8, 3) := by decide +kernel
theorem dL_law_3 : decode cL_law 3 = .ok (.dup, 1) := by decide +kernel
theorem dL_law_4 : decode cL_law 4 = .ok (.invokespecial 167, 3) := by decide +kernel
theorem dL_law_7 : decode cL_law 7 = .ok (.astore_n 1, 1) := by decide +kernel
theorem dL_law_8 : decode cL_law 8 = .ok (.new 8, 3) := by decide +kernel
theorem dL_law_11 : decode cL_law 11 = .ok (.dup, 1) := by decide +kernel
theorem dL_law_12 : decode cL_law 12 = .ok (.invokespecial 167, 3) := by decide +kernel
theorem dL_law_15 : decode cL_law 15 = .ok (.astore_n 2, 1) := by decide +kernel
theorem dL_law_16 : decode cL_law 16 = .ok (.bipush 10, 2) := by decide +kernel
theorem dL_law_18 : decode cL_law 18 = .ok (.aload_n 0, 1) := by decide +kernel
theorem dL_law_19 : decode cL_law 19 = .ok (.iconst 0, 1) := by decide +kernel
theorem dL_law_20 : decode cL_law 20 = .ok (.invokestatic 168, 3) := by decide +kernel
theorem dL_law_23 : decode cL_law 23 = .ok (.bipush 27, 2) := by decide +kernel
theorem dL_law_25 : decode cL_law 25 = .ok (.irem, 1) := by decide +kernel
theorem dL_law_26 : decode cL_law 26 = .ok (.iadd, 1) := by decide +kernel
theorem dL_law_27 : decode cL_law 27 = .ok (.istore_n 3, 1) := by decide +kernel
theorem dL_law_28 : decode cL_law 28 = .ok (.iconst 1, 1) := by decide +kernel
theorem dL_law_29 : decode cL_law 29 = .ok (.istore 4, 2) := by decide +kernel
theorem dL_law_31 : decode cL_law 31 = .ok (.iconst 0, 1) := by decide +kernel
theorem dL_law_32 : decode cL_law 32 = .ok (.istore 5, 2) := by decide +kernel
theorem dL_law_34 : decode cL_law 34 = .ok (.iload 5, 2) := by decide +kernel
theorem dL_law_36 : decode cL_law 36 = .ok (.iload_n 3, 1) := by decide +kernel
theorem dL_law_37 : decode cL_law 37 = .ok (.if_icmp .ge 134, 3) := by decide +kernel
theorem dL_law_40 : decode cL_law 40 = .ok (.iload 4, 2) := by decide +kernel
theorem dL_law_42 : decode cL_law 42 = .ok (.ifCond .eq 129, 3) := by decide +kernel
theorem dL_law_45 : decode cL_law 45 = .ok (.aload_n 0, 1) := by decide +kernel
theorem dL_law_46 : decode cL_law 46 = .ok (.iconst 1, 1) := by decide +kernel
theorem dL_law_47 : decode cL_law 47 = .ok (.iload 5, 2) := by decide +kernel
theorem dL_law_49 : decode cL_law 49 = .ok (.iadd, 1) := by decide +kernel
theorem dL_law_50 : decode cL_law 50 = .ok (.invokestatic 168, 3) := by decide +kernel
theorem dL_law_53 : decode cL_law 53 = .ok (.istore 6, 2) := by decide +kernel
theorem dL_law_55 : decode cL_law 55 = .ok (.aload_n 1, 1) := by decide +kernel
theorem dL_law_56 : decode cL_law 56 = .ok (.iload 6, 2) := by decide +kernel
theorem dL_law_58 : decode cL_law 58 = .ok (.invokestatic 172, 3) := by decide +kernel
theorem dL_law_61 : decode cL_law 61 = .ok (.istore 7, 2) := by decide +kernel
theorem dL_law_63 : decode cL_law 63 = .ok (.aload_n 2, 1) := by decide +kernel
theorem dL_law_64 : decode cL_law 64 = .ok (.iload 6, 2) := by decide +kernel
theorem dL_law_66 : decode cL_law 66 = .ok (.ldc 175, 2) := by decide +kernel
theorem dL_law_68 : decode cL_law 68 = .ok (.irem, 1) := by decide +kernel
theorem dL_law_69 : decode cL_law 69 = .ok (.invokestatic 176, 3) := by decide +kernel
theorem dL_law_72 : decode cL_law 72 = .ok (.ifCond .eq 90, 3) := by decide +kernel
theorem dL_law_75 : decode cL_law 75 = .ok (.aload_n 2, 1) := by decide +kernel
theorem dL_law_76 : decode cL_law 76 = .ok (.iload 6, 2) := by decide +kernel
theorem dL_law_78 : decode cL_law 78 = .ok (.invokestatic 172, 3) := by decide +kernel
theorem dL_law_81 : decode cL_law 81 = .ok (.iload 7, 2) := by decide +kernel
theorem dL_law_83 : decode cL_law 83 = .ok (.if_icmp .ne 79, 3) := by decide +kernel
theorem dL_law_86 : decode cL_law 86 = .ok (.aload_n 2, 1) := by decide +kernel
theorem dL_law_87 : decode cL_law 87 = .ok (.iload 6, 2) := by decide +kernel
theorem dL_law_89 : decode cL_law 89 = .ok (.sipush 1000, 3) := by decide +kernel
theorem dL_law_92 : decode cL_law 92 = .ok (.irem, 1) := by decide +kernel
theorem dL_law_93 : decode cL_law 93 = .ok (.invokestatic 176, 3) := by decide +kernel
theorem dL_law_96 : decode cL_law 96 = .ok (.ifCond .eq 66, 3) := by decide +kernel
theorem dL_law_99 : decode cL_law 99 = .ok (.aload_n 1, 1) := by decide +kernel
theorem dL_law_100 : decode cL_law 100 = .ok (.aload_n 2, 1) := by decide +kernel
theorem dL_law_101 : decode cL_law 101 = .ok (.iload 6, 2) := by decide +kernel
theorem dL_law_103 : decode cL_law 103 = .ok (.sipush 5000, 3) := by decide +kernel
theorem dL_law_106 : decode cL_law 106 = .ok (.irem, 1) := by decide +kernel
theorem dL_law_107 : decode cL_law 107 = .ok (.invokestatic 180, 3) := by decide +kernel
theorem dL_law_110 : decode cL_law 110 = .ok (.ifCond .eq 52, 3) := by decide +kernel
theorem dL_law_113 : decode cL_law 113 = .ok (.iload 5, 2) := by decide +kernel
theorem dL_law_115 : decode cL_law 115 = .ok (.iconst 2, 1) := by decide +kernel
theorem dL_law_116 : decode cL_law 116 = .ok (.irem, 1) := by decide +kernel
theorem dL_law_117 : decode cL_law 117 = .ok (.ifCond .ne 13, 3) := by decide +kernel
theorem dL_law_120 : decode cL_law 120 = .ok (.aload_n 1, 1) := by decide +kernel
theorem dL_law_121 : decode cL_law 121 = .ok (.invokestatic 184, 3) := by decide +kernel
theorem dL_law_124 : decode cL_law 124 = .ok (.ifCond .eq 38, 3) := by decide +kernel
theorem dL_law_127 : decode cL_law 127 = .ok (.goto 10, 3) := by decide +kernel
theorem dL_law_130 : decode cL_law 130 = .ok (.aload_n 2, 1) := by decide +kernel
theorem dL_law_131 : decode cL_law 131 = .ok (.invokestatic 184, 3) := by decide +kernel
theorem dL_law_134 : decode cL_law 134 = .ok (.ifCond .eq 28, 3) := by decide +kernel
theorem dL_law_137 : decode cL_law 137 = .ok (.aload_n 1, 1) := by decide +kernel
theorem dL_law_138 : decode cL_law 138 = .ok (.aload_n 2, 1) := by decide +kernel
theorem dL_law_139 : decode cL_law 139 = .ok (.invokestatic 188, 3) := by decide +kernel
theorem dL_law_142 : decode cL_law 142 = .ok (.ifCond .eq 20, 3) := by decide +kernel
theorem dL_law_145 : decode cL_law 145 = .ok (.aload_n 1, 1) := by decide +kernel
theorem dL_law_146 : decode cL_law 146 = .ok (.aload_n 2, 1) := by decide +kernel
theorem dL_law_147 : decode cL_law 147 = .ok (.iload 6, 2) := by decide +kernel
theorem dL_law_149 : decode cL_law 149 = .ok (.bipush 7, 2) := by decide +kernel
theorem dL_law_151 : decode cL_law 151 = .ok (.idiv, 1) := by decide +kernel
theorem dL_law_152 : decode cL_law 152 = .ok (.invokestatic 192, 3) := by decide +kernel
theorem dL_law_155 : decode cL_law 155 = .ok (.ifCond .eq 7, 3) := by decide +kernel
theorem dL_law_158 : decode cL_law 158 = .ok (.iconst 1, 1) := by decide +kernel
theorem dL_law_159 : decode cL_law 159 = .ok (.goto 4, 3) := by decide +kernel
theorem dL_law_162 : decode cL_law 162 = .ok (.iconst 0, 1) := by decide +kernel
theorem dL_law_163 : decode cL_law 163 = .ok (.istore 4, 2) := by decide +kernel
theorem dL_law_165 : decode cL_law 165 = .ok (.iinc 5 1, 3) := by decide +kernel
theorem dL_law_168 : decode cL_law 168 = .ok (.goto (-134), 3) := by decide +kernel
theorem dL_law_171 : decode cL_law 171 = .ok (.iload 4, 2) := by decide +kernel
theorem dL_law_173 : decode cL_law 173 = .ok (.ireturn, 1) := by decide +kernel
theorem dL_best_0 : decode cL_best 0 = .ok (.aload_n 0, 1) := by decide +kernel
theorem dL_best_1 : decode cL_best 1 = .ok (.invokevirtual 152, 3) := by decide +kernel
theorem dL_best_4 : decode cL_best 4 = .ok (.istore_n 2, 1) := by decide +kernel
theorem dL_best_5 : decode cL_best 5 = .ok (.iload_n 2, 1) := by decide +kernel
theorem dL_best_6 : decode cL_best 6 = .ok (.iconst (-1), 1) := by decide +kernel
theorem dL_best_7 : decode cL_best 7 = .ok (.if_icmp .ne 45, 3) := by decide +kernel
theorem dL_best_10 : decode cL_best 10 = .ok (.aload_n 1, 1) := by decide +kernel
theorem dL_best_11 : decode cL_best 11 = .ok (.invokevirtual 152, 3) := by decide +kernel
theorem dL_best_14 : decode cL_best 14 = .ok (.iconst (-1), 1) := by decide +kernel
theorem dL_best_15 : decode cL_best 15 = .ok (.if_icmp .ne 35, 3) := by decide +kernel
theorem dL_best_18 : decode cL_best 18 = .ok (.aload_n 0, 1) := by decide +kernel
theorem dL_best_19 : decode cL_best 19 = .ok (.bipush 7, 2) := by decide +kernel
theorem dL_best_21 : decode cL_best 21 = .ok (.iconst 0, 1) := by decide +kernel
theorem dL_best_22 : decode cL_best 22 = .ok (.iconst 0, 1) := by decide +kernel
theorem dL_best_23 : decode cL_best 23 = .ok (.iconst 1, 1) := by decide +kernel
theorem dL_best_24 : decode cL_best 24 = .ok (.invokestatic 132, 3) := by decide +kernel
theorem dL_best_27 : decode cL_best 27 = .ok (.ldc 33, 2) := by decide +kernel
theorem dL_best_29 : decode cL_best 29 = .ok (.if_icmp .ne 21, 3) := by decide +kernel
theorem dL_best_32 : decode cL_best 32 = .ok (.aload_n 1, 1) := by decide +kernel
theorem dL_best_33 : decode cL_best 33 = .ok (.bipush 7, 2) := by decide +kernel
theorem dL_best_35 : decode cL_best 35 = .ok (.iconst 0, 1) := by decide +kernel
theorem dL_best_36 : decode cL_best 36 = .ok (.iconst 0, 1) := by decide +kernel
theorem dL_best_37 : decode cL_best 37 = .ok (.iconst 1, 1) := by decide +kernel
theorem dL_best_38 : decode cL_best 38 = .ok (.invokestatic 132, 3) := by decide +kernel
theorem dL_best_41 : decode cL_best 41 = .ok (.ldc 33, 2) := by decide +kernel
theorem dL_best_43 : decode cL_best 43 = .ok (.if_icmp .ne 7, 3) := by decide +kernel
theorem dL_best_46 : decode cL_best 46 = .ok (.iconst 1, 1) := by decide +kernel
theorem dL_best_47 : decode cL_best 47 = .ok (.goto 4, 3) := by decide +kernel
theorem dL_best_50 : decode cL_best 50 = .ok (.iconst 0, 1) := by decide +kernel
theorem dL_best_51 : decode cL_best 51 = .ok (.ireturn, 1) := by decide +kernel
theorem dL_best_52 : decode cL_best 52 = .ok (.iload_n 2, 1) := by decide +kernel
theorem dL_best_53 : decode cL_best 53 = .ok (.bipush 100, 2) := by decide +kernel
theorem dL_best_55 : decode cL_best 55 = .ok (.idiv, 1) := by decide +kernel
theorem dL_best_56 : decode cL_best 56 = .ok (.istore_n 3, 1) := by decide +kernel
theorem dL_best_57 : decode cL_best 57 = .ok (.iload_n 2, 1) := by decide +kernel
theorem dL_best_58 : decode cL_best 58 = .ok (.bipush 10, 2) := by decide +kernel
theorem dL_best_60 : decode cL_best 60 = .ok (.idiv, 1) := by decide +kernel
theorem dL_best_61 : decode cL_best 61 = .ok (.bipush 10, 2) := by decide +kernel
theorem dL_best_63 : decode cL_best 63 = .ok (.irem, 1) := by decide +kernel
theorem dL_best_64 : decode cL_best 64 = .ok (.istore 4, 2) := by decide +kernel
theorem dL_best_66 : decode cL_best 66 = .ok (.aload_n 0, 1) := by decide +kernel
theorem dL_best_67 : decode cL_best 67 = .ok (.invokevirtual 149, 3) := by decide +kernel
theorem dL_best_70 : decode cL_best 70 = .ok (.bipush 100, 2) := by decide +kernel
theorem dL_best_72 : decode cL_best 72 = .ok (.isub, 1) := by decide +kernel
theorem dL_best_73 : decode cL_best 73 = .ok (.istore 5, 2) := by decide +kernel
theorem dL_best_75 : decode cL_best 75 = .ok (.aload_n 0, 1) := by decide +kernel
theorem dL_best_76 : decode cL_best 76 = .ok (.invokevirtual 158, 3) := by decide +kernel
theorem dL_best_79 : decode cL_best 79 = .ok (.istore 6, 2) := by decide +kernel
theorem dL_best_81 : decode cL_best 81 = .ok (.aload_n 0, 1) := by decide +kernel
theorem dL_best_82 : decode cL_best 82 = .ok (.iconst 2, 1) := by decide +kernel
theorem dL_best_83 : decode cL_best 83 = .ok (.iconst 4, 1) := by decide +kernel
theorem dL_best_84 : decode cL_best 84 = .ok (.iconst 0, 1) := by decide +kernel
theorem dL_best_85 : decode cL_best 85 = .ok (.iconst 0, 1) := by decide +kernel
theorem dL_best_86 : decode cL_best 86 = .ok (.invokestatic 132, 3) := by decide +kernel
theorem dL_best_89 : decode cL_best 89 = .ok (.istore 7, 2) := by decide +kernel
theorem dL_best_91 : decode cL_best 91 = .ok (.aload_n 0, 1) := by decide +kernel
theorem dL_best_92 : decode cL_best 92 = .ok (.iconst 4, 1) := by decide +kernel
theorem dL_best_93 : decode cL_best 93 = .ok (.iload 7, 2) := by decide +kernel
theorem dL_best_95 : decode cL_best 95 = .ok (.iconst 0, 1) := by decide +kernel
theorem dL_best_96 : decode cL_best 96 = .ok (.iconst 0, 1) := by decide +kernel
theorem dL_best_97 : decode cL_best 97 = .ok (.invokestatic 132, 3) := by decide +kernel
theorem dL_best_100 : decode cL_best 100 = .ok (.istore 8, 2) := by decide +kernel
theorem dL_best_102 : decode cL_best 102 = .ok (.aload_n 0, 1) := by decide +kernel
theorem dL_best_103 : decode cL_best 103 = .ok (.iconst 2, 1) := by decide +kernel
theorem dL_best_104 : decode cL_best 104 = .ok (.iconst 1, 1) := by decide +kernel
theorem dL_best_105 : decode cL_best 105 = .ok (.iconst 0, 1) := by decide +kernel
theorem dL_best_106 : decode cL_best 106 = .ok (.iconst 0, 1) := by decide +kernel
theorem dL_best_107 : decode cL_best 107 = .ok (.invokestatic 132, 3) := by decide +kernel
theorem dL_best_110 : decode cL_best 110 = .ok (.istore 9, 2) := by decide +kernel
theorem dL_best_112 : decode cL_best 112 = .ok (.aload_n 0, 1) := by decide +kernel
theorem dL_best_113 : decode cL_best 113 = .ok (.iconst 4, 1) := by decide +kernel
theorem dL_best_114 : decode cL_best 114 = .ok (.iload 7, 2) := by decide +kernel
theorem dL_best_116 : decode cL_best 116 = .ok (.iconst 2, 1) := by decide +kernel
theorem dL_best_117 : decode cL_best 117 = .ok (.iconst 0, 1) := by decide +kernel
theorem dL_best_118 : decode cL_best 118 = .ok (.invokestatic 132, 3) := by decide +kernel
theorem dL_best_121 : decode cL_best 121 = .ok (.istore 10, 2) := by decide +kernel
theorem dL_best_123 : decode cL_best 123 = .ok (.aload_n 0, 1) := by decide +kernel
theorem dL_best_124 : decode cL_best 124 = .ok (.iload_n 3, 1) := by decide +kernel
theorem dL_best_125 : decode cL_best 125 = .ok (.iload 4, 2) := by decide +kernel
theorem dL_best_127 : decode cL_best 127 = .ok (.iload_n 2, 1) := by decide +kernel
theorem dL_best_128 : decode cL_best 128 = .ok (.bipush 10, 2) := by decide +kernel
theorem dL_best_130 : decode cL_best 130 = .ok (.irem, 1) := by decide +kernel
theorem dL_best_131 : decode cL_best 131 = .ok (.iconst 1, 1) := by decide +kernel
theorem dL_best_132 : decode cL_best 132 = .ok (.invokestatic 136, 3) := by decide +kernel
theorem dL_best_135 : decode cL_best 135 = .ok (.istore 11, 2) := by decide +kernel
theorem dL_best_137 : decode cL_best 137 = .ok (.aload_n 0, 1) := by decide +kernel
theorem dL_best_138 : decode cL_best 138 = .ok (.bipush 7, 2) := by decide +kernel
theorem dL_best_140 : decode cL_best 140 = .ok (.iload_n 3, 1) := by decide +kernel
theorem dL_best_141 : decode cL_best 141 = .ok (.iload 4, 2) := by decide +kernel
theorem dL_best_143 : decode cL_best 143 = .ok (.iload_n 2, 1) := by decide +kernel
theorem dL_best_144 : decode cL_best 144 = .ok (.bipush 10, 2) := by decide +kernel
theorem dL_best_146 : decode cL_best 146 = .ok (.irem, 1) := by decide +kernel
theorem dL_best_147 : decode cL_best 147 = .ok (.invokestatic 132, 3) := by decide +kernel
theorem dL_best_150 : decode cL_best 150 = .ok (.istore 12, 2) := by decide +kernel
theorem dL_best_152 : decode cL_best 152 = .ok (.iload 12, 2) := by decide +kernel
theorem dL_best_154 : decode cL_best 154 = .ok (.ifCond .lt 121, 3) := by decide +kernel
theorem dL_best_157 : decode cL_best 157 = .ok (.aload_n 1, 1) := by decide +kernel
theorem dL_best_158 : decode cL_best 158 = .ok (.bipush 7, 2) := by decide +kernel
theorem dL_best_160 : decode cL_best 160 = .ok (.iload_n 3, 1) := by decide +kernel
theorem dL_best_161 : decode cL_best 161 = .ok (.iload 4, 2) := by decide +kernel
theorem dL_best_163 : decode cL_best 163 = .ok (.iload_n 2, 1) := by decide +kernel
theorem dL_best_164 : decode cL_best 164 = .ok (.bipush 10, 2) := by decide +kernel
theorem dL_best_166 : decode cL_best 166 = .ok (.irem, 1) := by decide +kernel
theorem dL_best_167 : decode cL_best 167 = .ok (.invokestatic 132, 3) := by decide +kernel
theorem dL_best_170 : decode cL_best 170 = .ok (.iload 12, 2) := by decide +kernel
theorem dL_best_172 : decode cL_best 172 = .ok (.if_icmp .ne 103, 3) := by decide +kernel
theorem dL_best_175 : decode cL_best 175 = .ok (.bipush 100, 2) := by decide +kernel
theorem dL_best_177 : decode cL_best 177 = .ok (.aload_n 0, 1) := by decide +kernel
theorem dL_best_178 : decode cL_best 178 = .ok (.invokevirtual 149, 3) := by decide +kernel
theorem dL_best_181 : decode cL_best 181 = .ok (.isub, 1) := by decide +kernel
theorem dL_best_182 : decode cL_best 182 = .ok (.iload 12, 2) := by decide +kernel
theorem dL_best_184 : decode cL_best 184 = .ok (.isub, 1) := by decide +kernel
theorem dL_best_185 : decode cL_best 185 = .ok (.iload 5, 2) := by decide +kernel
theorem dL_best_187 : decode cL_best 187 = .ok (.if_icmp .ne 88, 3) := by decide +kernel
theorem dL_best_190 : decode cL_best 190 = .ok (.aload_n 0, 1) := by decide +kernel
theorem dL_best_191 : decode cL_best 191 = .ok (.invokevirtual 158, 3) := by decide +kernel
theorem dL_best_194 : decode cL_best 194 = .ok (.iload 6, 2) := by decide +kernel
theorem dL_best_196 : decode cL_best 196 = .ok (.if_icmp .ne 79, 3) := by decide +kernel
theorem dL_best_199 : decode cL_best 199 = .ok (.aload_n 0, 1) := by decide +kernel
theorem dL_best_200 : decode cL_best 200 = .ok (.iconst 2, 1) := by decide +kernel
theorem dL_best_201 : decode cL_best 201 = .ok (.iconst 4, 1) := by decide +kernel
theorem dL_best_202 : decode cL_best 202 = .ok (.iconst 0, 1) := by decide +kernel
theorem dL_best_203 : decode cL_best 203 = .ok (.iconst 0, 1) := by decide +kernel
theorem dL_best_204 : decode cL_best 204 = .ok (.invokestatic 132, 3) := by decide +kernel
theorem dL_best_207 : decode cL_best 207 = .ok (.iconst 1, 1) := by decide +kernel
theorem dL_best_208 : decode cL_best 208 = .ok (.iload 7, 2) := by decide +kernel
theorem dL_best_210 : decode cL_best 210 = .ok (.isub, 1) := by decide +kernel
theorem dL_best_211 : decode cL_best 211 = .ok (.if_icmp .ne 64, 3) := by decide +kernel
theorem dL_best_214 : decode cL_best 214 = .ok (.aload_n 0, 1) := by decide +kernel
theorem dL_best_215 : decode cL_best 215 = .ok (.iconst 4, 1) := by decide +kernel
theorem dL_best_216 : decode cL_best 216 = .ok (.iload 7, 2) := by decide +kernel
theorem dL_best_218 : decode cL_best 218 = .ok (.iconst 0, 1) := by decide +kernel
theorem dL_best_219 : decode cL_best 219 = .ok (.iconst 0, 1) := by decide +kernel
theorem dL_best_220 : decode cL_best 220 = .ok (.invokestatic 132, 3) := by decide +kernel
theorem dL_best_223 : decode cL_best 223 = .ok (.iload 8, 2) := by decide +kernel
theorem dL_best_225 : decode cL_best 225 = .ok (.iload 12, 2) := by decide +kernel
theorem dL_best_227 : decode cL_best 227 = .ok (.iadd, 1) := by decide +kernel
theorem dL_best_228 : decode cL_best 228 = .ok (.if_icmp .ne 47, 3) := by decide +kernel
theorem dL_best_231 : decode cL_best 231 = .ok (.aload_n 0, 1) := by decide +kernel
theorem dL_best_232 : decode cL_best 232 = .ok (.iconst 2, 1) := by decide +kernel
theorem dL_best_233 : decode cL_best 233 = .ok (.bipush 7, 2) := by decide +kernel
theorem dL_best_235 : decode cL_best 235 = .ok (.iconst 0, 1) := by decide +kernel
theorem dL_best_236 : decode cL_best 236 = .ok (.iconst 0, 1) := by decide +kernel
theorem dL_best_237 : decode cL_best 237 = .ok (.invokestatic 132, 3) := by decide +kernel
theorem dL_best_240 : decode cL_best 240 = .ok (.iload 11, 2) := by decide +kernel
theorem dL_best_242 : decode cL_best 242 = .ok (.if_icmp .ne 33, 3) := by decide +kernel
theorem dL_best_245 : decode cL_best 245 = .ok (.aload_n 0, 1) := by decide +kernel
theorem dL_best_246 : decode cL_best 246 = .ok (.iconst 4, 1) := by decide +kernel
theorem dL_best_247 : decode cL_best 247 = .ok (.iload 7, 2) := by decide +kernel
theorem dL_best_249 : decode cL_best 249 = .ok (.iconst 2, 1) := by decide +kernel
theorem dL_best_250 : decode cL_best 250 = .ok (.iconst 0, 1) := by decide +kernel
theorem dL_best_251 : decode cL_best 251 = .ok (.invokestatic 132, 3) := by decide +kernel
theorem dL_best_254 : decode cL_best 254 = .ok (.iload 10, 2) := by decide +kernel
theorem dL_best_256 : decode cL_best 256 = .ok (.isub, 1) := by decide +kernel
theorem dL_best_257 : decode cL_best 257 = .ok (.iload 9, 2) := by decide +kernel
theorem dL_best_259 : decode cL_best 259 = .ok (.aload_n 0, 1) := by decide +kernel
theorem dL_best_260 : decode cL_best 260 = .ok (.iconst 2, 1) := by decide +kernel
theorem dL_best_261 : decode cL_best 261 = .ok (.iconst 1, 1) := by decide +kernel
theorem dL_best_262 : decode cL_best 262 = .ok (.iconst 0, 1) := by decide +kernel
theorem dL_best_263 : decode cL_best 263 = .ok (.iconst 0, 1) := by decide +kernel
theorem dL_best_264 : decode cL_best 264 = .ok (.invokestatic 132, 3) := by decide +kernel
theorem dL_best_267 : decode cL_best 267 = .ok (.isub, 1) := by decide +kernel
theorem dL_best_268 : decode cL_best 268 = .ok (.if_icmp .ne 7, 3) := by decide +kernel
theorem dL_best_271 : decode cL_best 271 = .ok (.iconst 1, 1) := by decide +kernel
theorem dL_best_272 : decode cL_best 272 = .ok (.goto 4, 3) := by decide +kernel
theorem dL_best_275 : decode cL_best 275 = .ok (.iconst 0, 1) := by decide +kernel
theorem dL_best_276 : decode cL_best 276 = .ok (.istore 13, 2) := by decide +kernel
theorem dL_best_278 : decode cL_best 278 = .ok (.iload 13, 2) := by decide +kernel
theorem dL_best_280 : decode cL_best 280 = .ok (.ifCond .eq 76, 3) := by decide +kernel
theorem dL_best_283 : decode cL_best 283 = .ok (.aload_n 0, 1) := by decide +kernel
theorem dL_best_284 : decode cL_best 284 = .ok (.bipush 11, 2) := by decide +kernel
theorem dL_best_286 : decode cL_best 286 = .ok (.iconst 0, 1) := by decide +kernel
theorem dL_best_287 : decode cL_best 287 = .ok (.iconst 0, 1) := by decide +kernel
theorem dL_best_288 : decode cL_best 288 = .ok (.iconst 0, 1) := by decide +kernel
theorem dL_best_289 : decode cL_best 289 = .ok (.invokestatic 132, 3) := by decide +kernel
theorem dL_best_292 : decode cL_best 292 = .ok (.invokestatic 195, 3) := by decide +kernel
theorem dL_best_295 : decode cL_best 295 = .ok (.ifCond .ne 61, 3) := by decide +kernel
theorem dL_best_298 : decode cL_best 298 = .ok (.aload_n 1, 1) := by decide +kernel
theorem dL_best_299 : decode cL_best 299 = .ok (.bipush 11, 2) := by decide +kernel
theorem dL_best_301 : decode cL_best 301 = .ok (.iconst 0, 1) := by decide +kernel
theorem dL_best_302 : decode cL_best 302 = .ok (.iconst 0, 1) := by decide +kernel
theorem dL_best_303 : decode cL_best 303 = .ok (.iconst 0, 1) := by decide +kernel
theorem dL_best_304 : decode cL_best 304 = .ok (.invokestatic 132, 3) := by decide +kernel
theorem dL_best_307 : decode cL_best 307 = .ok (.invokestatic 195, 3) := by decide +kernel
theorem dL_best_310 : decode cL_best 310 = .ok (.ifCond .ne 46, 3) := by decide +kernel
theorem dL_best_313 : decode cL_best 313 = .ok (.aload_n 0, 1) := by decide +kernel
theorem dL_best_314 : decode cL_best 314 = .ok (.invokevirtual 149, 3) := by decide +kernel
theorem dL_best_317 : decode cL_best 317 = .ok (.bipush 100, 2) := by decide +kernel
theorem dL_best_319 : decode cL_best 319 = .ok (.isub, 1) := by decide +kernel
theorem dL_best_320 : decode cL_best 320 = .ok (.iload 5, 2) := by decide +kernel
theorem dL_best_322 : decode cL_best 322 = .ok (.if_icmp .ne 34, 3) := by decide +kernel
theorem dL_best_325 : decode cL_best 325 = .ok (.aload_n 0, 1) := by decide +kernel
theorem dL_best_326 : decode cL_best 326 = .ok (.iconst 2, 1) := by decide +kernel
theorem dL_best_327 : decode cL_best 327 = .ok (.iconst 1, 1) := by decide +kernel
theorem dL_best_328 : decode cL_best 328 = .ok (.iconst 0, 1) := by decide +kernel
theorem dL_best_329 : decode cL_best 329 = .ok (.iconst 0, 1) := by decide +kernel
theorem dL_best_330 : decode cL_best 330 = .ok (.invokestatic 132, 3) := by decide +kernel
theorem dL_best_333 : decode cL_best 333 = .ok (.iload 9, 2) := by decide +kernel
theorem dL_best_335 : decode cL_best 335 = .ok (.if_icmp .ne 21, 3) := by decide +kernel
theorem dL_best_338 : decode cL_best 338 = .ok (.aload_n 0, 1) := by decide +kernel
theorem dL_best_339 : decode cL_best 339 = .ok (.iconst 4, 1) := by decide +kernel
theorem dL_best_340 : decode cL_best 340 = .ok (.iload 7, 2) := by decide +kernel
theorem dL_best_342 : decode cL_best 342 = .ok (.iconst 0, 1) := by decide +kernel
theorem dL_best_343 : decode cL_best 343 = .ok (.iconst 0, 1) := by decide +kernel
theorem dL_best_344 : decode cL_best 344 = .ok (.invokestatic 132, 3) := by decide +kernel
theorem dL_best_347 : decode cL_best 347 = .ok (.iload 8, 2) := by decide +kernel
theorem dL_best_349 : decode cL_best 349 = .ok (.if_icmp .ne 7, 3) := by decide +kernel
theorem dL_best_352 : decode cL_best 352 = .ok (.iconst 1, 1) := by decide +kernel
theorem dL_best_353 : decode cL_best 353 = .ok (.goto 4, 3) := by decide +kernel
theorem dL_best_356 : decode cL_best 356 = .ok (.iconst 0, 1) := by decide +kernel
theorem dL_best_357 : decode cL_best 357 = .ok (.ireturn, 1) := by decide +kernel
theorem dL_waters_0 : decode cL_waters 0 = .ok (.aload_n 0, 1) := by decide +kernel
theorem dL_waters_1 : decode cL_waters 1 = .ok (.iconst 2, 1) := by decide +kernel
theorem dL_waters_2 : decode cL_waters 2 = .ok (.iconst 0, 1) := by decide +kernel
theorem dL_waters_3 : decode cL_waters 3 = .ok (.iconst 0, 1) := by decide +kernel
theorem dL_waters_4 : decode cL_waters 4 = .ok (.iconst 0, 1) := by decide +kernel
theorem dL_waters_5 : decode cL_waters 5 = .ok (.invokestatic 132, 3) := by decide +kernel
theorem dL_waters_8 : decode cL_waters 8 = .ok (.istore_n 3, 1) := by decide +kernel
theorem dL_waters_9 : decode cL_waters 9 = .ok (.aload_n 0, 1) := by decide +kernel
theorem dL_waters_10 : decode cL_waters 10 = .ok (.invokevirtual 149, 3) := by decide +kernel
theorem dL_waters_13 : decode cL_waters 13 = .ok (.istore 4, 2) := by decide +kernel
theorem dL_waters_15 : decode cL_waters 15 = .ok (.aload_n 0, 1) := by decide +kernel
theorem dL_waters_16 : decode cL_waters 16 = .ok (.invokevirtual 164, 3) := by decide +kernel
theorem dL_waters_19 : decode cL_waters 19 = .ok (.istore 5, 2) := by decide +kernel
theorem dL_waters_21 : decode cL_waters 21 = .ok (.iload 4, 2) := by decide +kernel
theorem dL_waters_23 : decode cL_waters 23 = .ok (.istore 6, 2) := by decide +kernel
theorem dL_waters_25 : decode cL_waters 25 = .ok (.iload_n 2, 1) := by decide +kernel
theorem dL_waters_26 : decode cL_waters 26 = .ok (.iload_n 3, 1) := by decide +kernel
theorem dL_waters_27 : decode cL_waters 27 = .ok (.irem, 1) := by decide +kernel
theorem dL_waters_28 : decode cL_waters 28 = .ok (.istore 7, 2) := by decide +kernel
theorem dL_waters_30 : decode cL_waters 30 = .ok (.iconst 1, 1) := by decide +kernel
theorem dL_waters_31 : decode cL_waters 31 = .ok (.istore 8, 2) := by decide +kernel
theorem dL_waters_33 : decode cL_waters 33 = .ok (.iload 5, 2) := by decide +kernel
theorem dL_waters_35 : decode cL_waters 35 = .ok (.iconst (-1), 1) := by decide +kernel
theorem dL_waters_36 : decode cL_waters 36 = .ok (.if_icmp .eq 97, 3) := by decide +kernel
theorem dL_waters_39 : decode cL_waters 39 = .ok (.aload_n 0, 1) := by decide +kernel
theorem dL_waters_40 : decode cL_waters 40 = .ok (.bipush 8, 2) := by decide +kernel
theorem dL_waters_42 : decode cL_waters 42 = .ok (.iload 5, 2) := by decide +kernel
theorem dL_waters_44 : decode cL_waters 44 = .ok (.iconst 0, 1) := by decide +kernel
theorem dL_waters_45 : decode cL_waters 45 = .ok (.iconst 0, 1) := by decide +kernel
theorem dL_waters_46 : decode cL_waters 46 = .ok (.invokestatic 132, 3) := by decide +kernel
theorem dL_waters_49 : decode cL_waters 49 = .ok (.invokestatic 195, 3) := by decide +kernel
theorem dL_waters_52 : decode cL_waters 52 = .ok (.ifCond .ne 23, 3) := by decide +kernel
theorem dL_waters_55 : decode cL_waters 55 = .ok (.aload_n 1, 1) := by decide +kernel
theorem dL_waters_56 : decode cL_waters 56 = .ok (.bipush 8, 2) := by decide +kernel
theorem dL_waters_58 : decode cL_waters 58 = .ok (.iload 5, 2) := by decide +kernel
theorem dL_waters_60 : decode cL_waters 60 = .ok (.iconst 0, 1) := by decide +kernel
theorem dL_waters_61 : decode cL_waters 61 = .ok (.iconst 0, 1) := by decide +kernel
theorem dL_waters_62 : decode cL_waters 62 = .ok (.invokestatic 132, 3) := by decide +kernel
theorem dL_waters_65 : decode cL_waters 65 = .ok (.invokestatic 195, 3) := by decide +kernel
theorem dL_waters_68 : decode cL_waters 68 = .ok (.ifCond .ne 7, 3) := by decide +kernel
theorem dL_waters_71 : decode cL_waters 71 = .ok (.iconst 1, 1) := by decide +kernel
theorem dL_waters_72 : decode cL_waters 72 = .ok (.goto 4, 3) := by decide +kernel
theorem dL_waters_75 : decode cL_waters 75 = .ok (.iconst 0, 1) := by decide +kernel
theorem dL_waters_76 : decode cL_waters 76 = .ok (.istore 8, 2) := by decide +kernel
theorem dL_waters_78 : decode cL_waters 78 = .ok (.aload_n 0, 1) := by decide +kernel
theorem dL_waters_79 : decode cL_waters 79 = .ok (.invokevirtual 149, 3) := by decide +kernel
theorem dL_waters_82 : decode cL_waters 82 = .ok (.istore 6, 2) := by decide +kernel
theorem dL_waters_84 : decode cL_waters 84 = .ok (.iload 8, 2) := by decide +kernel
theorem dL_waters_86 : decode cL_waters 86 = .ok (.ifCond .eq 44, 3) := by decide +kernel
theorem dL_waters_89 : decode cL_waters 89 = .ok (.iload 6, 2) := by decide +kernel
theorem dL_waters_91 : decode cL_waters 91 = .ok (.iload 4, 2) := by decide +kernel
theorem dL_waters_93 : decode cL_waters 93 = .ok (.if_icmp .le 37, 3) := by decide +kernel
theorem dL_waters_96 : decode cL_waters 96 = .ok (.aload_n 0, 1) := by decide +kernel
theorem dL_waters_97 : decode cL_waters 97 = .ok (.bipush 11, 2) := by decide +kernel
theorem dL_waters_99 : decode cL_waters 99 = .ok (.iconst 0, 1) := by decide +kernel
theorem dL_waters_100 : decode cL_waters 100 = .ok (.iconst 0, 1) := by decide +kernel
theorem dL_waters_101 : decode cL_waters 101 = .ok (.iconst 0, 1) := by decide +kernel
theorem dL_waters_102 : decode cL_waters 102 = .ok (.invokestatic 132, 3) := by decide +kernel
theorem dL_waters_105 : decode cL_waters 105 = .ok (.invokestatic 195, 3) := by decide +kernel
theorem dL_waters_108 : decode cL_waters 108 = .ok (.ifCond .ne 22, 3) := by decide +kernel
theorem dL_waters_111 : decode cL_waters 111 = .ok (.aload_n 1, 1) := by decide +kernel
theorem dL_waters_112 : decode cL_waters 112 = .ok (.bipush 11, 2) := by decide +kernel
theorem dL_waters_114 : decode cL_waters 114 = .ok (.iconst 0, 1) := by decide +kernel
theorem dL_waters_115 : decode cL_waters 115 = .ok (.iconst 0, 1) := by decide +kernel
theorem dL_waters_116 : decode cL_waters 116 = .ok (.iconst 0, 1) := by decide +kernel
theorem dL_waters_117 : decode cL_waters 117 = .ok (.invokestatic 132, 3) := by decide +kernel
theorem dL_waters_120 : decode cL_waters 120 = .ok (.invokestatic 195, 3) := by decide +kernel
theorem dL_waters_123 : decode cL_waters 123 = .ok (.ifCond .ne 7, 3) := by decide +kernel
theorem dL_waters_126 : decode cL_waters 126 = .ok (.iconst 1, 1) := by decide +kernel
theorem dL_waters_127 : decode cL_waters 127 = .ok (.goto 4, 3) := by decide +kernel
theorem dL_waters_130 : decode cL_waters 130 = .ok (.iconst 0, 1) := by decide +kernel
theorem dL_waters_131 : decode cL_waters 131 = .ok (.istore 8, 2) := by decide +kernel
theorem dL_waters_133 : decode cL_waters 133 = .ok (.aload_n 0, 1) := by decide +kernel
theorem dL_waters_134 : decode cL_waters 134 = .ok (.bipush 8, 2) := by decide +kernel
theorem dL_waters_136 : decode cL_waters 136 = .ok (.iload 7, 2) := by decide +kernel
theorem dL_waters_138 : decode cL_waters 138 = .ok (.iconst 0, 1) := by decide +kernel
theorem dL_waters_139 : decode cL_waters 139 = .ok (.iconst 0, 1) := by decide +kernel
theorem dL_waters_140 : decode cL_waters 140 = .ok (.invokestatic 132, 3) := by decide +kernel
theorem dL_waters_143 : decode cL_waters 143 = .ok (.istore 9, 2) := by decide +kernel
theorem dL_waters_145 : decode cL_waters 145 = .ok (.iload 8, 2) := by decide +kernel
theorem dL_waters_147 : decode cL_waters 147 = .ok (.ifCond .eq 22, 3) := by decide +kernel
theorem dL_waters_150 : decode cL_waters 150 = .ok (.aload_n 1, 1) := by decide +kernel
theorem dL_waters_151 : decode cL_waters 151 = .ok (.bipush 8, 2) := by decide +kernel
theorem dL_waters_153 : decode cL_waters 153 = .ok (.iload 7, 2) := by decide +kernel
theorem dL_waters_155 : decode cL_waters 155 = .ok (.iconst 0, 1) := by decide +kernel
theorem dL_waters_156 : decode cL_waters 156 = .ok (.iconst 0, 1) := by decide +kernel
theorem dL_waters_157 : decode cL_waters 157 = .ok (.invokestatic 132, 3) := by decide +kernel
theorem dL_waters_160 : decode cL_waters 160 = .ok (.iload 9, 2) := by decide +kernel
theorem dL_waters_162 : decode cL_waters 162 = .ok (.if_icmp .ne 7, 3) := by decide +kernel
theorem dL_waters_165 : decode cL_waters 165 = .ok (.iconst 1, 1) := by decide +kernel
theorem dL_waters_166 : decode cL_waters 166 = .ok (.goto 4, 3) := by decide +kernel
theorem dL_waters_169 : decode cL_waters 169 = .ok (.iconst 0, 1) := by decide +kernel
theorem dL_waters_170 : decode cL_waters 170 = .ok (.istore 8, 2) := by decide +kernel
theorem dL_waters_172 : decode cL_waters 172 = .ok (.iload 9, 2) := by decide +kernel
theorem dL_waters_174 : decode cL_waters 174 = .ok (.ldc 33, 2) := by decide +kernel
theorem dL_waters_176 : decode cL_waters 176 = .ok (.if_icmp .ne 27, 3) := by decide +kernel
theorem dL_waters_179 : decode cL_waters 179 = .ok (.iload 8, 2) := by decide +kernel
theorem dL_waters_181 : decode cL_waters 181 = .ok (.ifCond .eq 20, 3) := by decide +kernel
theorem dL_waters_184 : decode cL_waters 184 = .ok (.aload_n 0, 1) := by decide +kernel
theorem dL_waters_185 : decode cL_waters 185 = .ok (.iconst 3, 1) := by decide +kernel
theorem dL_waters_186 : decode cL_waters 186 = .ok (.iload 7, 2) := by decide +kernel
theorem dL_waters_188 : decode cL_waters 188 = .ok (.iconst 0, 1) := by decide +kernel
theorem dL_waters_189 : decode cL_waters 189 = .ok (.iconst 0, 1) := by decide +kernel
theorem dL_waters_190 : decode cL_waters 190 = .ok (.invokestatic 132, 3) := by decide +kernel
theorem dL_waters_193 : decode cL_waters 193 = .ok (.iconst 3, 1) := by decide +kernel
theorem dL_waters_194 : decode cL_waters 194 = .ok (.if_icmp .ne 7, 3) := by decide +kernel
theorem dL_waters_197 : decode cL_waters 197 = .ok (.iconst 1, 1) := by decide +kernel
theorem dL_waters_198 : decode cL_waters 198 = .ok (.goto 4, 3) := by decide +kernel
theorem dL_waters_201 : decode cL_waters 201 = .ok (.iconst 0, 1) := by decide +kernel
theorem dL_waters_202 : decode cL_waters 202 = .ok (.ireturn, 1) := by decide +kernel
theorem dL_waters_203 : decode cL_waters 203 = .ok (.aload_n 0, 1) := by decide +kernel
theorem dL_waters_204 : decode cL_waters 204 = .ok (.invokevirtual 149, 3) := by decide +kernel
theorem dL_waters_207 : decode cL_waters 207 = .ok (.istore 10, 2) := by decide +kernel
theorem dL_waters_209 : decode cL_waters 209 = .ok (.iload 8, 2) := by decide +kernel
theorem dL_waters_211 : decode cL_waters 211 = .ok (.ifCond .eq 73, 3) := by decide +kernel
theorem dL_waters_214 : decode cL_waters 214 = .ok (.iload 10, 2) := by decide +kernel
theorem dL_waters_216 : decode cL_waters 216 = .ok (.iload 6, 2) := by decide +kernel
theorem dL_waters_218 : decode cL_waters 218 = .ok (.if_icmp .gt 66, 3) := by decide +kernel
theorem dL_waters_221 : decode cL_waters 221 = .ok (.iload 5, 2) := by decide +kernel
theorem dL_waters_223 : decode cL_waters 223 = .ok (.iconst (-1), 1) := by decide +kernel
theorem dL_waters_224 : decode cL_waters 224 = .ok (.if_icmp .eq 17, 3) := by decide +kernel
theorem dL_waters_227 : decode cL_waters 227 = .ok (.iload 10, 2) := by decide +kernel
theorem dL_waters_229 : decode cL_waters 229 = .ok (.iload 6, 2) := by decide +kernel
theorem dL_waters_231 : decode cL_waters 231 = .ok (.if_icmp .lt 10, 3) := by decide +kernel
theorem dL_waters_234 : decode cL_waters 234 = .ok (.iload 7, 2) := by decide +kernel
theorem dL_waters_236 : decode cL_waters 236 = .ok (.iload 5, 2) := by decide +kernel
theorem dL_waters_238 : decode cL_waters 238 = .ok (.if_icmp .lt 46, 3) := by decide +kernel
theorem dL_waters_241 : decode cL_waters 241 = .ok (.aload_n 0, 1) := by decide +kernel
theorem dL_waters_242 : decode cL_waters 242 = .ok (.bipush 11, 2) := by decide +kernel
theorem dL_waters_244 : decode cL_waters 244 = .ok (.iconst 0, 1) := by decide +kernel
theorem dL_waters_245 : decode cL_waters 245 = .ok (.iconst 0, 1) := by decide +kernel
theorem dL_waters_246 : decode cL_waters 246 = .ok (.iconst 0, 1) := by decide +kernel
theorem dL_waters_247 : decode cL_waters 247 = .ok (.invokestatic 132, 3) := by decide +kernel
theorem dL_waters_250 : decode cL_waters 250 = .ok (.invokestatic 195, 3) := by decide +kernel
theorem dL_waters_253 : decode cL_waters 253 = .ok (.ifCond .ne 31, 3) := by decide +kernel
theorem dL_waters_256 : decode cL_waters 256 = .ok (.aload_n 1, 1) := by decide +kernel
theorem dL_waters_257 : decode cL_waters 257 = .ok (.bipush 11, 2) := by decide +kernel
theorem dL_waters_259 : decode cL_waters 259 = .ok (.iconst 0, 1) := by decide +kernel
theorem dL_waters_260 : decode cL_waters 260 = .ok (.iconst 0, 1) := by decide +kernel
theorem dL_waters_261 : decode cL_waters 261 = .ok (.iconst 0, 1) := by decide +kernel
theorem dL_waters_262 : decode cL_waters 262 = .ok (.invokestatic 132, 3) := by decide +kernel
theorem dL_waters_265 : decode cL_waters 265 = .ok (.invokestatic 195, 3) := by decide +kernel
theorem dL_waters_268 : decode cL_waters 268 = .ok (.ifCond .ne 16, 3) := by decide +kernel
theorem dL_waters_271 : decode cL_waters 271 = .ok (.aload_n 0, 1) := by decide +kernel
theorem dL_waters_272 : decode cL_waters 272 = .ok (.invokevirtual 149, 3) := by decide +kernel
theorem dL_waters_275 : decode cL_waters 275 = .ok (.iload 4, 2) := by decide +kernel
theorem dL_waters_277 : decode cL_waters 277 = .ok (.if_icmp .ne 7, 3) := by decide +kernel
theorem dL_waters_280 : decode cL_waters 280 = .ok (.iconst 1, 1) := by decide +kernel
theorem dL_waters_281 : decode cL_waters 281 = .ok (.goto 4, 3) := by decide +kernel
theorem dL_waters_284 : decode cL_waters 284 = .ok (.iconst 0, 1) := by decide +kernel
theorem dL_waters_285 : decode cL_waters 285 = .ok (.ireturn, 1) := by decide +kernel
end
section
/-! the words of the tables that a call may hand on; each that is needed, by its place -/
def hw_T : List Cond := lw_tbl.filter goodWord
theorem hw_in {w : Cond} (i : Nat) (h : lw_tbl[i]? = some w) (g : goodWord w = true) : w ∈ hw_T := List.mem_filter.mpr ⟨List.mem_of_getElem? h, g⟩
def hw_W (y : MethodName) (b : ByteArray) (n : Nat) (r : Option FieldType) : List Cond := .code y b n r :: hw_T
theorem hw_c {y : MethodName} {b : ByteArray} {n : Nat} {r : Option FieldType} {w : Cond} (h : w ∈ hw_T) : w ∈ hw_W y b n r := List.mem_cons_of_mem _ h
theorem hw_good {y : MethodName} {b : ByteArray} {n : Nat} {r : Option FieldType} {y2 : MethodName} {b2 : ByteArray} {n2 : Nat} {r2 : Option FieldType} (h : Cond.code y2 b2 n2 r2 ∈ hw_T) : GoodIn (hw_W y b n r) (hw_W y2 b2 n2 r2) := by
  intro w hw
  have h2 : w ∈ hw_T := by
    rcases List.mem_cons.mp hw with e | e
    · rw [e]; exact h
    · exact e
  exact ⟨hw_c h2, good_of_word (List.mem_filter.mp h2).2⟩
theorem hw_g1 {y : MethodName} {b : ByteArray} {n : Nat} {r : Option FieldType} {w : Cond} (h : w ∈ hw_T) : w ∈ hw_W y b n r ∧ ((w.onTables && w.keeps) = true ∨ ∃ ty, w = .arrayClass ty) := ⟨hw_c h, good_of_word (List.mem_filter.mp h).2⟩
theorem hw_V {y : MethodName} {b : ByteArray} {n : Nat} {r : Option FieldType} {own Cn : String} {idx : Nat} {y2 : MethodName} {b2 : ByteArray} {n2 : Nat} {r2 : Option FieldType} (h1 : Cond.methodLink own idx y2 ∈ hw_T) (h2 : Cond.instanceMethod y2 ∈ hw_T) (h3 : Cond.selects Cn y2 y2 ∈ hw_T) (h4 : Cond.initialized Cn ∈ hw_T) (h5 : Cond.code y2 b2 n2 r2 ∈ hw_T) : GoodIn (hw_W y b n r) (wsV own idx Cn y2 (hw_W y2 b2 n2 r2)) := by
  intro w hw
  rcases List.mem_append.mp hw with g | g
  · simp only [List.mem_cons, List.not_mem_nil, or_false] at g
    rcases g with rfl | rfl | rfl | rfl
    · exact hw_g1 h1
    · exact hw_g1 h2
    · exact hw_g1 h3
    · exact hw_g1 h4
  · exact hw_good h5 w g
theorem hw_S {y : MethodName} {b : ByteArray} {n : Nat} {r : Option FieldType} {own : String} {idx : Nat} {y2 : MethodName} {b2 : ByteArray} {n2 : Nat} {r2 : Option FieldType} (h1 : Cond.methodLink own idx y2 ∈ hw_T) (h2 : Cond.static y2 ∈ hw_T) (h4 : Cond.initialized y2.cls ∈ hw_T) (h5 : Cond.code y2 b2 n2 r2 ∈ hw_T) : GoodIn (hw_W y b n r) (va_wsS own idx y2 (hw_W y2 b2 n2 r2)) := by
  intro w hw
  rcases List.mem_append.mp hw with g | g
  · simp only [List.mem_cons, List.not_mem_nil, or_false] at g
    rcases g with rfl | rfl | rfl
    · exact hw_g1 h1
    · exact hw_g1 h2
    · exact hw_g1 h4
  · exact hw_good h5 w g
theorem tw_s_X7_behindStems : Cond.selects RX7 yX7_behindStems yX7_behindStems ∈ hw_T := hw_in 1 (by decide +kernel) (by decide +kernel)
theorem tw_s_X7_faultInCommand : Cond.selects RX7 yX7_faultInCommand yX7_faultInCommand ∈ hw_T := hw_in 2 (by decide +kernel) (by decide +kernel)
theorem tw_s_X8_obeyCommand : Cond.selects RX8 yX8_obeyCommand yX8_obeyCommand ∈ hw_T := hw_in 3 (by decide +kernel) (by decide +kernel)
theorem tw_s_X8_triesBestClip : Cond.selects RX8 yX8_triesBestClip yX8_triesBestClip ∈ hw_T := hw_in 4 (by decide +kernel) (by decide +kernel)
theorem tw_s_X5_worthAt : Cond.selects RX5 yX5_worthAt yX5_worthAt ∈ hw_T := hw_in 5 (by decide +kernel) (by decide +kernel)
theorem tw_s_X5_gainAt : Cond.selects RX5 yX5_gainAt yX5_gainAt ∈ hw_T := hw_in 6 (by decide +kernel) (by decide +kernel)
theorem tw_s_X8_requireStem : Cond.selects RX8 yX8_requireStem yX8_requireStem ∈ hw_T := hw_in 7 (by decide +kernel) (by decide +kernel)
theorem tw_s_X8_requireClip : Cond.selects RX8 yX8_requireClip yX8_requireClip ∈ hw_T := hw_in 8 (by decide +kernel) (by decide +kernel)
theorem tw_s_X8_worthOf : Cond.selects RX8 yX8_worthOf yX8_worthOf ∈ hw_T := hw_in 9 (by decide +kernel) (by decide +kernel)
theorem tw_s_X8_obeyGroup : Cond.selects RX8 yX8_obeyGroup yX8_obeyGroup ∈ hw_T := hw_in 10 (by decide +kernel) (by decide +kernel)
theorem tw_s_X8_winnerOf : Cond.selects RX8 yX8_winnerOf yX8_winnerOf ∈ hw_T := hw_in 11 (by decide +kernel) (by decide +kernel)
theorem tw_s_X8_simulateTurn : Cond.selects RX8 yX8_simulateTurn yX8_simulateTurn ∈ hw_T := hw_in 12 (by decide +kernel) (by decide +kernel)
theorem tw_n_RL : Cond.initialized RL ∈ hw_T := hw_in 13 (by decide +kernel) (by decide +kernel)
theorem tw_n_RX8 : Cond.initialized RX8 ∈ hw_T := hw_in 14 (by decide +kernel) (by decide +kernel)
theorem tw_n_RX1 : Cond.initialized RX1 ∈ hw_T := hw_in 15 (by decide +kernel) (by decide +kernel)
theorem tw_n_RX2 : Cond.initialized RX2 ∈ hw_T := hw_in 16 (by decide +kernel) (by decide +kernel)
theorem tw_n_RX4 : Cond.initialized RX4 ∈ hw_T := hw_in 17 (by decide +kernel) (by decide +kernel)
theorem tw_n_RX7 : Cond.initialized RX7 ∈ hw_T := hw_in 18 (by decide +kernel) (by decide +kernel)
theorem tw_n_RX6 : Cond.initialized RX6 ∈ hw_T := hw_in 19 (by decide +kernel) (by decide +kernel)
theorem tw_n_java_lang_Throwable : Cond.initialized "java/lang/Throwable" ∈ hw_T := hw_in 20 (by decide +kernel) (by decide +kernel)
theorem tw_n_java_lang_Exception : Cond.initialized "java/lang/Exception" ∈ hw_T := hw_in 21 (by decide +kernel) (by decide +kernel)
theorem tw_n_java_lang_RuntimeException : Cond.initialized "java/lang/RuntimeException" ∈ hw_T := hw_in 22 (by decide +kernel) (by decide +kernel)
theorem tw_n_java_lang_IllegalArgumentException : Cond.initialized "java/lang/IllegalArgumentException" ∈ hw_T := hw_in 23 (by decide +kernel) (by decide +kernel)
theorem tw_n_java_lang_IllegalStateException : Cond.initialized "java/lang/IllegalStateException" ∈ hw_T := hw_in 24 (by decide +kernel) (by decide +kernel)
theorem tw_n_RX3 : Cond.initialized RX3 ∈ hw_T := hw_in 25 (by decide +kernel) (by decide +kernel)
theorem tw_n_RX0 : Cond.initialized RX0 ∈ hw_T := hw_in 26 (by decide +kernel) (by decide +kernel)
theorem tw_n_RJ9 : Cond.initialized RJ9 ∈ hw_T := hw_in 27 (by decide +kernel) (by decide +kernel)
theorem tw_n_java_lang_Math : Cond.initialized "java/lang/Math" ∈ hw_T := hw_in 27 (by decide +kernel) (by decide +kernel)
theorem tw_n_RJ6 : Cond.initialized RJ6 ∈ hw_T := hw_in 28 (by decide +kernel) (by decide +kernel)
theorem tw_n_java_lang_Integer : Cond.initialized "java/lang/Integer" ∈ hw_T := hw_in 28 (by decide +kernel) (by decide +kernel)
theorem tw_n_RX5 : Cond.initialized RX5 ∈ hw_T := hw_in 29 (by decide +kernel) (by decide +kernel)
theorem tw_n_java_lang_IndexOutOfBoundsException : Cond.initialized "java/lang/IndexOutOfBoundsException" ∈ hw_T := hw_in 30 (by decide +kernel) (by decide +kernel)
theorem tw_c_RL_8 : Cond.classLink RL 8 RX8 ∈ hw_T := hw_in 31 (by decide +kernel) (by decide +kernel)
theorem tw_z_RX8 : Cond.instantiable RX8 6 ∈ hw_T := hw_in 32 (by decide +kernel) (by decide +kernel)
theorem tw_m_RL_167 : Cond.methodLink RL 167 yX8_init ∈ hw_T := hw_in 33 (by decide +kernel) (by decide +kernel)
theorem tw_i_X8_init : Cond.instanceMethod yX8_init ∈ hw_T := hw_in 34 (by decide +kernel) (by decide +kernel)
theorem tw_k_X8_init : Cond.code yX8_init cX8_init 1 none ∈ hw_T := hw_in 35 (by decide +kernel) (by decide +kernel)
theorem tw_m_RX8_3 : Cond.methodLink RX8 3 objectInit ∈ hw_T := hw_in 36 (by decide +kernel) (by decide +kernel)
theorem tw_i_objectInit : Cond.instanceMethod objectInit ∈ hw_T := hw_in 37 (by decide +kernel) (by decide +kernel)
theorem tw_k_objectInit : Cond.code objectInit ⟨#[0xb1]⟩ 1 none ∈ hw_T := hw_in 38 (by decide +kernel) (by decide +kernel)
theorem tw_c_RX8_9 : Cond.classLink RX8 9 RX1 ∈ hw_T := hw_in 39 (by decide +kernel) (by decide +kernel)
theorem tw_z_RX1 : Cond.instantiable RX1 8 ∈ hw_T := hw_in 40 (by decide +kernel) (by decide +kernel)
theorem tw_m_RX8_11 : Cond.methodLink RX8 11 yX1_init ∈ hw_T := hw_in 41 (by decide +kernel) (by decide +kernel)
theorem tw_i_X1_init : Cond.instanceMethod yX1_init ∈ hw_T := hw_in 42 (by decide +kernel) (by decide +kernel)
theorem tw_k_X1_init : Cond.code yX1_init cX1_init 1 none ∈ hw_T := hw_in 43 (by decide +kernel) (by decide +kernel)
theorem tw_m_RX1_3 : Cond.methodLink RX1 3 objectInit ∈ hw_T := hw_in 44 (by decide +kernel) (by decide +kernel)
theorem tw_c_RX1_9 : Cond.classLink RX1 9 RX2 ∈ hw_T := hw_in 45 (by decide +kernel) (by decide +kernel)
theorem tw_z_RX2 : Cond.instantiable RX2 3 ∈ hw_T := hw_in 46 (by decide +kernel) (by decide +kernel)
theorem tw_i_X2_init : Cond.instanceMethod yX2_init ∈ hw_T := hw_in 48 (by decide +kernel) (by decide +kernel)
theorem tw_k_X2_init : Cond.code yX2_init cX2_init 1 none ∈ hw_T := hw_in 49 (by decide +kernel) (by decide +kernel)
theorem tw_m_RX2_1 : Cond.methodLink RX2 1 objectInit ∈ hw_T := hw_in 50 (by decide +kernel) (by decide +kernel)
theorem tw_f_RX2_7 : Cond.fieldLink RX2 7 "HedgeClips$Gardener" "fines" "I" ∈ hw_T := hw_in 51 (by decide +kernel) (by decide +kernel)
theorem tw_f_RX2_13 : Cond.fieldLink RX2 13 "HedgeClips$Gardener" "clips" "I" ∈ hw_T := hw_in 54 (by decide +kernel) (by decide +kernel)
theorem tw_f_RX2_16 : Cond.fieldLink RX2 16 "HedgeClips$Gardener" "taken" "I" ∈ hw_T := hw_in 57 (by decide +kernel) (by decide +kernel)
theorem tw_l_RX2_fines : Cond.lays RX2 "HedgeClips$Gardener" "fines" "I" ∈ hw_T := hw_in 60 (by decide +kernel) (by decide +kernel)
theorem tw_l_RX2_clips : Cond.lays RX2 "HedgeClips$Gardener" "clips" "I" ∈ hw_T := hw_in 62 (by decide +kernel) (by decide +kernel)
theorem tw_l_RX2_taken : Cond.lays RX2 "HedgeClips$Gardener" "taken" "I" ∈ hw_T := hw_in 64 (by decide +kernel) (by decide +kernel)
theorem tw_m_RX1_21 : Cond.methodLink RX1 21 yX1_makeNew ∈ hw_T := hw_in 67 (by decide +kernel) (by decide +kernel)
theorem tw_i_X1_makeNew : Cond.instanceMethod yX1_makeNew ∈ hw_T := hw_in 68 (by decide +kernel) (by decide +kernel)
theorem tw_s_X1_makeNew : Cond.selects RX1 yX1_makeNew yX1_makeNew ∈ hw_T := hw_in 69 (by decide +kernel) (by decide +kernel)
theorem tw_k_X1_makeNew : Cond.code yX1_makeNew cX1_makeNew 3 none ∈ hw_T := hw_in 70 (by decide +kernel) (by decide +kernel)
theorem tw_m_RX1_35 : Cond.methodLink RX1 35 yX1_replant ∈ hw_T := hw_in 71 (by decide +kernel) (by decide +kernel)
theorem tw_i_X1_replant : Cond.instanceMethod yX1_replant ∈ hw_T := hw_in 72 (by decide +kernel) (by decide +kernel)
theorem tw_s_X1_replant : Cond.selects RX1 yX1_replant yX1_replant ∈ hw_T := hw_in 73 (by decide +kernel) (by decide +kernel)
theorem tw_k_X1_replant : Cond.code yX1_replant cX1_replant 3 none ∈ hw_T := hw_in 74 (by decide +kernel) (by decide +kernel)
theorem tw_m_RX1_47 : Cond.methodLink RX1 47 yX2_makeNew ∈ hw_T := hw_in 75 (by decide +kernel) (by decide +kernel)
theorem tw_i_X2_makeNew : Cond.instanceMethod yX2_makeNew ∈ hw_T := hw_in 76 (by decide +kernel) (by decide +kernel)
theorem tw_s_X2_makeNew : Cond.selects RX2 yX2_makeNew yX2_makeNew ∈ hw_T := hw_in 77 (by decide +kernel) (by decide +kernel)
theorem tw_k_X2_makeNew : Cond.code yX2_makeNew cX2_makeNew 1 none ∈ hw_T := hw_in 78 (by decide +kernel) (by decide +kernel)
theorem tw_f_RX1_38 : Cond.fieldLink RX1 38 "HedgeClips$Garden" "stems" "I" ∈ hw_T := hw_in 80 (by decide +kernel) (by decide +kernel)
theorem tw_f_RX1_41 : Cond.fieldLink RX1 41 "HedgeClips$Garden" "hedge" "I" ∈ hw_T := hw_in 82 (by decide +kernel) (by decide +kernel)
theorem tw_f_RX1_25 : Cond.fieldLink RX1 25 "HedgeClips$Garden" "wind" "I" ∈ hw_T := hw_in 84 (by decide +kernel) (by decide +kernel)
theorem tw_f_RX1_44 : Cond.fieldLink RX1 44 "HedgeClips$Garden" "turn" "I" ∈ hw_T := hw_in 87 (by decide +kernel) (by decide +kernel)
theorem tw_f_RX1_29 : Cond.fieldLink RX1 29 "HedgeClips$Garden" "fine" "I" ∈ hw_T := hw_in 89 (by decide +kernel) (by decide +kernel)
theorem tw_f_RX1_32 : Cond.fieldLink RX1 32 "HedgeClips$Garden" "reach" "I" ∈ hw_T := hw_in 91 (by decide +kernel) (by decide +kernel)
theorem tw_f_RX1_12 : Cond.fieldLink RX1 12 "HedgeClips$Garden" "first" "LHedgeClips$Gardener;" ∈ hw_T := hw_in 94 (by decide +kernel) (by decide +kernel)
theorem tw_f_RX1_18 : Cond.fieldLink RX1 18 "HedgeClips$Garden" "second" "LHedgeClips$Gardener;" ∈ hw_T := hw_in 95 (by decide +kernel) (by decide +kernel)
theorem tw_l_RX1_stems : Cond.lays RX1 "HedgeClips$Garden" "stems" "I" ∈ hw_T := hw_in 96 (by decide +kernel) (by decide +kernel)
theorem tw_l_RX1_hedge : Cond.lays RX1 "HedgeClips$Garden" "hedge" "I" ∈ hw_T := hw_in 98 (by decide +kernel) (by decide +kernel)
theorem tw_l_RX1_wind : Cond.lays RX1 "HedgeClips$Garden" "wind" "I" ∈ hw_T := hw_in 100 (by decide +kernel) (by decide +kernel)
theorem tw_l_RX1_turn : Cond.lays RX1 "HedgeClips$Garden" "turn" "I" ∈ hw_T := hw_in 102 (by decide +kernel) (by decide +kernel)
theorem tw_l_RX1_fine : Cond.lays RX1 "HedgeClips$Garden" "fine" "I" ∈ hw_T := hw_in 104 (by decide +kernel) (by decide +kernel)
theorem tw_l_RX1_reach : Cond.lays RX1 "HedgeClips$Garden" "reach" "I" ∈ hw_T := hw_in 106 (by decide +kernel) (by decide +kernel)
theorem tw_l_RX1_first : Cond.laysFinal RX1 "HedgeClips$Garden" "first" "LHedgeClips$Gardener;" ∈ hw_T := hw_in 108 (by decide +kernel) (by decide +kernel)
theorem tw_l_RX1_second : Cond.laysFinal RX1 "HedgeClips$Garden" "second" "LHedgeClips$Gardener;" ∈ hw_T := hw_in 110 (by decide +kernel) (by decide +kernel)
theorem tw_c_RX8_19 : Cond.classLink RX8 19 RX4 ∈ hw_T := hw_in 113 (by decide +kernel) (by decide +kernel)
theorem tw_z_RX4 : Cond.instantiable RX4 3 ∈ hw_T := hw_in 114 (by decide +kernel) (by decide +kernel)
theorem tw_i_X4_init : Cond.instanceMethod yX4_init ∈ hw_T := hw_in 116 (by decide +kernel) (by decide +kernel)
theorem tw_k_X4_init : Cond.code yX4_init cX4_init 1 none ∈ hw_T := hw_in 117 (by decide +kernel) (by decide +kernel)
theorem tw_m_RX4_1 : Cond.methodLink RX4 1 objectInit ∈ hw_T := hw_in 118 (by decide +kernel) (by decide +kernel)
theorem tw_c_RX4_7 : Cond.classLink RX4 7 RX1 ∈ hw_T := hw_in 119 (by decide +kernel) (by decide +kernel)
theorem tw_f_RX4_9 : Cond.fieldLink RX4 9 "HedgeClips$Memory" "ring" "[LHedgeClips$Garden;" ∈ hw_T := hw_in 121 (by decide +kernel) (by decide +kernel)
theorem tw_f_RX4_15 : Cond.fieldLink RX4 15 "HedgeClips$Memory" "size" "I" ∈ hw_T := hw_in 122 (by decide +kernel) (by decide +kernel)
theorem tw_f_RX4_19 : Cond.fieldLink RX4 19 "HedgeClips$Memory" "next" "I" ∈ hw_T := hw_in 124 (by decide +kernel) (by decide +kernel)
theorem tw_l_RX4_ring : Cond.laysFinal RX4 "HedgeClips$Memory" "ring" "[LHedgeClips$Garden;" ∈ hw_T := hw_in 125 (by decide +kernel) (by decide +kernel)
theorem tw_l_RX4_size : Cond.lays RX4 "HedgeClips$Memory" "size" "I" ∈ hw_T := hw_in 127 (by decide +kernel) (by decide +kernel)
theorem tw_l_RX4_next : Cond.lays RX4 "HedgeClips$Memory" "next" "I" ∈ hw_T := hw_in 129 (by decide +kernel) (by decide +kernel)
theorem tw_c_RX8_30 : Cond.classLink RX8 30 RX7 ∈ hw_T := hw_in 132 (by decide +kernel) (by decide +kernel)
theorem tw_z_RX7 : Cond.instantiable RX7 2 ∈ hw_T := hw_in 133 (by decide +kernel) (by decide +kernel)
theorem tw_i_X7_init : Cond.instanceMethod yX7_init ∈ hw_T := hw_in 135 (by decide +kernel) (by decide +kernel)
theorem tw_k_X7_init : Cond.code yX7_init cX7_init 1 none ∈ hw_T := hw_in 136 (by decide +kernel) (by decide +kernel)
theorem tw_m_RX7_3 : Cond.methodLink RX7 3 objectInit ∈ hw_T := hw_in 137 (by decide +kernel) (by decide +kernel)
theorem tw_f_RX7_9 : Cond.fieldLink RX7 9 "HedgeClips$Text" "signs" "[C" ∈ hw_T := hw_in 138 (by decide +kernel) (by decide +kernel)
theorem tw_f_RX7_15 : Cond.fieldLink RX7 15 "HedgeClips$Text" "length" "I" ∈ hw_T := hw_in 139 (by decide +kernel) (by decide +kernel)
theorem tw_l_RX7_signs : Cond.laysFinal RX7 "HedgeClips$Text" "signs" "[C" ∈ hw_T := hw_in 141 (by decide +kernel) (by decide +kernel)
theorem tw_l_RX7_length : Cond.lays RX7 "HedgeClips$Text" "length" "I" ∈ hw_T := hw_in 143 (by decide +kernel) (by decide +kernel)
theorem tw_a_char : Cond.arrayClass .char ∈ hw_T := hw_in 146 (by decide +kernel) (by decide +kernel)
theorem tw_c_RX8_37 : Cond.classLink RX8 37 RX6 ∈ hw_T := hw_in 147 (by decide +kernel) (by decide +kernel)
theorem tw_z_RX6 : Cond.instantiable RX6 1 ∈ hw_T := hw_in 148 (by decide +kernel) (by decide +kernel)
theorem tw_i_X6_init : Cond.instanceMethod yX6_init ∈ hw_T := hw_in 150 (by decide +kernel) (by decide +kernel)
theorem tw_k_X6_init : Cond.code yX6_init cX6_init 1 none ∈ hw_T := hw_in 151 (by decide +kernel) (by decide +kernel)
theorem tw_m_RX6_3 : Cond.methodLink RX6 3 objectInit ∈ hw_T := hw_in 152 (by decide +kernel) (by decide +kernel)
theorem tw_c_RX6_9 : Cond.classLink RX6 9 RX5 ∈ hw_T := hw_in 153 (by decide +kernel) (by decide +kernel)
theorem tw_f_RX6_11 : Cond.fieldLink RX6 11 "HedgeClips$Outlooks" "made" "[LHedgeClips$Outlook;" ∈ hw_T := hw_in 155 (by decide +kernel) (by decide +kernel)
theorem tw_l_RX6_made : Cond.laysFinal RX6 "HedgeClips$Outlooks" "made" "[LHedgeClips$Outlook;" ∈ hw_T := hw_in 156 (by decide +kernel) (by decide +kernel)
theorem tw_f_RX8_12 : Cond.fieldLink RX8 12 "HedgeClips" "now" "LHedgeClips$Garden;" ∈ hw_T := hw_in 159 (by decide +kernel) (by decide +kernel)
theorem tw_f_RX8_16 : Cond.fieldLink RX8 16 "HedgeClips" "copy" "LHedgeClips$Garden;" ∈ hw_T := hw_in 160 (by decide +kernel) (by decide +kernel)
theorem tw_f_RX8_22 : Cond.fieldLink RX8 22 "HedgeClips" "memory" "LHedgeClips$Memory;" ∈ hw_T := hw_in 161 (by decide +kernel) (by decide +kernel)
theorem tw_f_RX8_26 : Cond.fieldLink RX8 26 "HedgeClips" "slots" "[LHedgeClips$Garden;" ∈ hw_T := hw_in 162 (by decide +kernel) (by decide +kernel)
theorem tw_f_RX8_33 : Cond.fieldLink RX8 33 "HedgeClips" "text" "LHedgeClips$Text;" ∈ hw_T := hw_in 163 (by decide +kernel) (by decide +kernel)
theorem tw_f_RX8_40 : Cond.fieldLink RX8 40 "HedgeClips" "outlooks" "LHedgeClips$Outlooks;" ∈ hw_T := hw_in 164 (by decide +kernel) (by decide +kernel)
theorem tw_l_RX8_now : Cond.laysFinal RX8 "HedgeClips" "now" "LHedgeClips$Garden;" ∈ hw_T := hw_in 165 (by decide +kernel) (by decide +kernel)
theorem tw_l_RX8_copy : Cond.laysFinal RX8 "HedgeClips" "copy" "LHedgeClips$Garden;" ∈ hw_T := hw_in 167 (by decide +kernel) (by decide +kernel)
theorem tw_l_RX8_memory : Cond.laysFinal RX8 "HedgeClips" "memory" "LHedgeClips$Memory;" ∈ hw_T := hw_in 169 (by decide +kernel) (by decide +kernel)
theorem tw_l_RX8_slots : Cond.laysFinal RX8 "HedgeClips" "slots" "[LHedgeClips$Garden;" ∈ hw_T := hw_in 171 (by decide +kernel) (by decide +kernel)
theorem tw_l_RX8_text : Cond.laysFinal RX8 "HedgeClips" "text" "LHedgeClips$Text;" ∈ hw_T := hw_in 173 (by decide +kernel) (by decide +kernel)
theorem tw_l_RX8_outlooks : Cond.laysFinal RX8 "HedgeClips" "outlooks" "LHedgeClips$Outlooks;" ∈ hw_T := hw_in 175 (by decide +kernel) (by decide +kernel)
theorem tw_m_RL_168 : Cond.methodLink RL 168 yL_cell ∈ hw_T := hw_in 178 (by decide +kernel) (by decide +kernel)
theorem tw_t_L_cell : Cond.static yL_cell ∈ hw_T := hw_in 179 (by decide +kernel) (by decide +kernel)
theorem tw_k_L_cell : Cond.code yL_cell cL_cell 2 (some .int) ∈ hw_T := hw_in 180 (by decide +kernel) (by decide +kernel)
theorem tw_o_RL_130 : Cond.constant RL 130 (15519347 : Int32) ∈ hw_T := hw_in 181 (by decide +kernel) (by decide +kernel)
theorem tw_o_RL_131 : Cond.constant RL 131 (2147483647 : Int32) ∈ hw_T := hw_in 182 (by decide +kernel) (by decide +kernel)
theorem tw_m_RL_176 : Cond.methodLink RL 176 yL_refuses ∈ hw_T := hw_in 183 (by decide +kernel) (by decide +kernel)
theorem tw_t_L_refuses : Cond.static yL_refuses ∈ hw_T := hw_in 184 (by decide +kernel) (by decide +kernel)
theorem tw_m_RL_132 : Cond.methodLink RL 132 yL_call ∈ hw_T := hw_in 186 (by decide +kernel) (by decide +kernel)
theorem tw_t_L_call : Cond.static yL_call ∈ hw_T := hw_in 187 (by decide +kernel) (by decide +kernel)
theorem tw_k_L_call : Cond.code yL_call cL_call 5 (some .int) ∈ hw_T := hw_in 188 (by decide +kernel) (by decide +kernel)
theorem tw_m_RL_79 : Cond.methodLink RL 79 yL_tryAppend ∈ hw_T := hw_in 189 (by decide +kernel) (by decide +kernel)
theorem tw_t_L_tryAppend : Cond.static yL_tryAppend ∈ hw_T := hw_in 190 (by decide +kernel) (by decide +kernel)
theorem tw_c_RL_16 : Cond.classLink RL 16 "java/lang/IllegalArgumentException" ∈ hw_T := hw_in 192 (by decide +kernel) (by decide +kernel)
theorem tw_c_RL_31 : Cond.classLink RL 31 "java/lang/IllegalStateException" ∈ hw_T := hw_in 193 (by decide +kernel) (by decide +kernel)
theorem tw_m_RL_27 : Cond.methodLink RL 27 yX8_append ∈ hw_T := hw_in 194 (by decide +kernel) (by decide +kernel)
theorem tw_i_X8_append : Cond.instanceMethod yX8_append ∈ hw_T := hw_in 195 (by decide +kernel) (by decide +kernel)
theorem tw_s_X8_append : Cond.selects RX8 yX8_append yX8_append ∈ hw_T := hw_in 196 (by decide +kernel) (by decide +kernel)
theorem tw_k_X8_append : Cond.code yX8_append cX8_append 2 (some .int) ∈ hw_T := hw_in 197 (by decide +kernel) (by decide +kernel)
theorem tw_c_RX8_44 : Cond.classLink RX8 44 "java/lang/IllegalArgumentException" ∈ hw_T := hw_in 198 (by decide +kernel) (by decide +kernel)
theorem tw_a_byte : Cond.arrayClass .byte ∈ hw_T := hw_in 265 (by decide +kernel) (by decide +kernel)
theorem tw_m_RX8_51 : Cond.methodLink RX8 51 yX7_takes ∈ hw_T := hw_in 266 (by decide +kernel) (by decide +kernel)
theorem tw_i_X7_takes : Cond.instanceMethod yX7_takes ∈ hw_T := hw_in 267 (by decide +kernel) (by decide +kernel)
theorem tw_s_X7_takes : Cond.selects RX7 yX7_takes yX7_takes ∈ hw_T := hw_in 268 (by decide +kernel) (by decide +kernel)
theorem tw_k_X7_takes : Cond.code yX7_takes cX7_takes 2 (some .boolean) ∈ hw_T := hw_in 269 (by decide +kernel) (by decide +kernel)
theorem tw_c_RX8_55 : Cond.classLink RX8 55 "java/lang/IllegalStateException" ∈ hw_T := hw_in 270 (by decide +kernel) (by decide +kernel)
theorem tw_o_RL_18 : Cond.constant RL 18 (-9999002 : Int32) ∈ hw_T := hw_in 286 (by decide +kernel) (by decide +kernel)
theorem tw_o_RL_33 : Cond.constant RL 33 (-9999003 : Int32) ∈ hw_T := hw_in 287 (by decide +kernel) (by decide +kernel)
theorem tw_m_RL_85 : Cond.methodLink RL 85 yL_tryLoad ∈ hw_T := hw_in 288 (by decide +kernel) (by decide +kernel)
theorem tw_t_L_tryLoad : Cond.static yL_tryLoad ∈ hw_T := hw_in 289 (by decide +kernel) (by decide +kernel)
theorem tw_m_RL_34 : Cond.methodLink RL 34 yX8_load ∈ hw_T := hw_in 291 (by decide +kernel) (by decide +kernel)
theorem tw_i_X8_load : Cond.instanceMethod yX8_load ∈ hw_T := hw_in 292 (by decide +kernel) (by decide +kernel)
theorem tw_s_X8_load : Cond.selects RX8 yX8_load yX8_load ∈ hw_T := hw_in 293 (by decide +kernel) (by decide +kernel)
theorem tw_k_X8_load : Cond.code yX8_load cX8_load 3 (some .int) ∈ hw_T := hw_in 294 (by decide +kernel) (by decide +kernel)
theorem tw_m_RX8_64 : Cond.methodLink RX8 64 yX7_firstFault ∈ hw_T := hw_in 295 (by decide +kernel) (by decide +kernel)
theorem tw_i_X7_firstFault : Cond.instanceMethod yX7_firstFault ∈ hw_T := hw_in 296 (by decide +kernel) (by decide +kernel)
theorem tw_s_X7_firstFault : Cond.selects RX7 yX7_firstFault yX7_firstFault ∈ hw_T := hw_in 297 (by decide +kernel) (by decide +kernel)
theorem tw_k_X7_firstFault : Cond.code yX7_firstFault cX7_firstFault 3 (some .int) ∈ hw_T := hw_in 298 (by decide +kernel) (by decide +kernel)
theorem tw_m_RX7_19 : Cond.methodLink RX7 19 yX7_at ∈ hw_T := hw_in 299 (by decide +kernel) (by decide +kernel)
theorem tw_i_X7_at : Cond.instanceMethod yX7_at ∈ hw_T := hw_in 300 (by decide +kernel) (by decide +kernel)
theorem tw_s_X7_at : Cond.selects RX7 yX7_at yX7_at ∈ hw_T := hw_in 301 (by decide +kernel) (by decide +kernel)
theorem tw_k_X7_at : Cond.code yX7_at cX7_at 2 (some .int) ∈ hw_T := hw_in 302 (by decide +kernel) (by decide +kernel)
theorem tw_m_RX7_27 : Cond.methodLink RX7 27 yX7_behindStems ∈ hw_T := hw_in 303 (by decide +kernel) (by decide +kernel)
theorem tw_i_X7_behindStems : Cond.instanceMethod yX7_behindStems ∈ hw_T := hw_in 305 (by decide +kernel) (by decide +kernel)
theorem tw_k_X7_behindStems : Cond.code yX7_behindStems cX7_behindStems 2 (some .int) ∈ hw_T := hw_in 306 (by decide +kernel) (by decide +kernel)
theorem tw_m_RX7_23 : Cond.methodLink RX7 23 yX7_isBetween ∈ hw_T := hw_in 307 (by decide +kernel) (by decide +kernel)
theorem tw_t_X7_isBetween : Cond.static yX7_isBetween ∈ hw_T := hw_in 308 (by decide +kernel) (by decide +kernel)
theorem tw_k_X7_isBetween : Cond.code yX7_isBetween cX7_isBetween 3 (some .boolean) ∈ hw_T := hw_in 309 (by decide +kernel) (by decide +kernel)
theorem tw_m_RX7_37 : Cond.methodLink RX7 37 yX7_faultInCommand ∈ hw_T := hw_in 310 (by decide +kernel) (by decide +kernel)
theorem tw_i_X7_faultInCommand : Cond.instanceMethod yX7_faultInCommand ∈ hw_T := hw_in 312 (by decide +kernel) (by decide +kernel)
theorem tw_k_X7_faultInCommand : Cond.code yX7_faultInCommand cX7_faultInCommand 5 (some .int) ∈ hw_T := hw_in 313 (by decide +kernel) (by decide +kernel)
theorem tw_m_RX7_43 : Cond.methodLink RX7 43 yX7_isCommand ∈ hw_T := hw_in 314 (by decide +kernel) (by decide +kernel)
theorem tw_t_X7_isCommand : Cond.static yX7_isCommand ∈ hw_T := hw_in 315 (by decide +kernel) (by decide +kernel)
theorem tw_k_X7_isCommand : Cond.code yX7_isCommand cX7_isCommand 1 (some .boolean) ∈ hw_T := hw_in 316 (by decide +kernel) (by decide +kernel)
theorem tw_m_RX7_40 : Cond.methodLink RX7 40 yX7_digitsBehind ∈ hw_T := hw_in 317 (by decide +kernel) (by decide +kernel)
theorem tw_t_X7_digitsBehind : Cond.static yX7_digitsBehind ∈ hw_T := hw_in 318 (by decide +kernel) (by decide +kernel)
theorem tw_k_X7_digitsBehind : Cond.code yX7_digitsBehind cX7_digitsBehind 1 (some .int) ∈ hw_T := hw_in 319 (by decide +kernel) (by decide +kernel)
theorem tw_m_RX7_47 : Cond.methodLink RX7 47 yX7_allowsDigit ∈ hw_T := hw_in 320 (by decide +kernel) (by decide +kernel)
theorem tw_t_X7_allowsDigit : Cond.static yX7_allowsDigit ∈ hw_T := hw_in 321 (by decide +kernel) (by decide +kernel)
theorem tw_k_X7_allowsDigit : Cond.code yX7_allowsDigit cX7_allowsDigit 4 (some .boolean) ∈ hw_T := hw_in 322 (by decide +kernel) (by decide +kernel)
theorem tw_m_RX8_70 : Cond.methodLink RX8 70 yX7_stems ∈ hw_T := hw_in 324 (by decide +kernel) (by decide +kernel)
theorem tw_i_X7_stems : Cond.instanceMethod yX7_stems ∈ hw_T := hw_in 325 (by decide +kernel) (by decide +kernel)
theorem tw_s_X7_stems : Cond.selects RX7 yX7_stems yX7_stems ∈ hw_T := hw_in 326 (by decide +kernel) (by decide +kernel)
theorem tw_k_X7_stems : Cond.code yX7_stems cX7_stems 1 (some .int) ∈ hw_T := hw_in 327 (by decide +kernel) (by decide +kernel)
theorem tw_m_RX8_73 : Cond.methodLink RX8 73 yX7_hedge ∈ hw_T := hw_in 328 (by decide +kernel) (by decide +kernel)
theorem tw_i_X7_hedge : Cond.instanceMethod yX7_hedge ∈ hw_T := hw_in 329 (by decide +kernel) (by decide +kernel)
theorem tw_s_X7_hedge : Cond.selects RX7 yX7_hedge yX7_hedge ∈ hw_T := hw_in 330 (by decide +kernel) (by decide +kernel)
theorem tw_k_X7_hedge : Cond.code yX7_hedge cX7_hedge 3 (some .int) ∈ hw_T := hw_in 331 (by decide +kernel) (by decide +kernel)
theorem tw_m_RX7_31 : Cond.methodLink RX7 31 yX7_stems ∈ hw_T := hw_in 332 (by decide +kernel) (by decide +kernel)
theorem tw_m_RX7_34 : Cond.methodLink RX7 34 yX7_digit ∈ hw_T := hw_in 333 (by decide +kernel) (by decide +kernel)
theorem tw_i_X7_digit : Cond.instanceMethod yX7_digit ∈ hw_T := hw_in 334 (by decide +kernel) (by decide +kernel)
theorem tw_s_X7_digit : Cond.selects RX7 yX7_digit yX7_digit ∈ hw_T := hw_in 335 (by decide +kernel) (by decide +kernel)
theorem tw_k_X7_digit : Cond.code yX7_digit cX7_digit 2 (some .int) ∈ hw_T := hw_in 336 (by decide +kernel) (by decide +kernel)
theorem tw_m_RX8_76 : Cond.methodLink RX8 76 yX1_makeNew ∈ hw_T := hw_in 337 (by decide +kernel) (by decide +kernel)
theorem tw_m_RX8_80 : Cond.methodLink RX8 80 yX4_forget ∈ hw_T := hw_in 338 (by decide +kernel) (by decide +kernel)
theorem tw_i_X4_forget : Cond.instanceMethod yX4_forget ∈ hw_T := hw_in 339 (by decide +kernel) (by decide +kernel)
theorem tw_s_X4_forget : Cond.selects RX4 yX4_forget yX4_forget ∈ hw_T := hw_in 340 (by decide +kernel) (by decide +kernel)
theorem tw_k_X4_forget : Cond.code yX4_forget cX4_forget 1 none ∈ hw_T := hw_in 341 (by decide +kernel) (by decide +kernel)
theorem tw_m_RX8_83 : Cond.methodLink RX8 83 yX7_hasDigit ∈ hw_T := hw_in 342 (by decide +kernel) (by decide +kernel)
theorem tw_i_X7_hasDigit : Cond.instanceMethod yX7_hasDigit ∈ hw_T := hw_in 343 (by decide +kernel) (by decide +kernel)
theorem tw_s_X7_hasDigit : Cond.selects RX7 yX7_hasDigit yX7_hasDigit ∈ hw_T := hw_in 344 (by decide +kernel) (by decide +kernel)
theorem tw_k_X7_hasDigit : Cond.code yX7_hasDigit cX7_hasDigit 2 (some .boolean) ∈ hw_T := hw_in 345 (by decide +kernel) (by decide +kernel)
theorem tw_m_RX8_87 : Cond.methodLink RX8 87 yX8_obeyCommand ∈ hw_T := hw_in 346 (by decide +kernel) (by decide +kernel)
theorem tw_i_X8_obeyCommand : Cond.instanceMethod yX8_obeyCommand ∈ hw_T := hw_in 348 (by decide +kernel) (by decide +kernel)
theorem tw_k_X8_obeyCommand : Cond.code yX8_obeyCommand cX8_obeyCommand 2 (some .boolean) ∈ hw_T := hw_in 349 (by decide +kernel) (by decide +kernel)
theorem tw_m_RX8_90 : Cond.methodLink RX8 90 yX7_at ∈ hw_T := hw_in 350 (by decide +kernel) (by decide +kernel)
theorem tw_m_RX8_94 : Cond.methodLink RX8 94 yX7_digit ∈ hw_T := hw_in 351 (by decide +kernel) (by decide +kernel)
theorem tw_m_RX8_97 : Cond.methodLink RX8 97 yX1_triesClip ∈ hw_T := hw_in 352 (by decide +kernel) (by decide +kernel)
theorem tw_i_X1_triesClip : Cond.instanceMethod yX1_triesClip ∈ hw_T := hw_in 353 (by decide +kernel) (by decide +kernel)
theorem tw_s_X1_triesClip : Cond.selects RX1 yX1_triesClip yX1_triesClip ∈ hw_T := hw_in 354 (by decide +kernel) (by decide +kernel)
theorem tw_k_X1_triesClip : Cond.code yX1_triesClip cX1_triesClip 4 (some .boolean) ∈ hw_T := hw_in 355 (by decide +kernel) (by decide +kernel)
theorem tw_m_RX1_86 : Cond.methodLink RX1 86 yX1_hasStem ∈ hw_T := hw_in 356 (by decide +kernel) (by decide +kernel)
theorem tw_i_X1_hasStem : Cond.instanceMethod yX1_hasStem ∈ hw_T := hw_in 357 (by decide +kernel) (by decide +kernel)
theorem tw_s_X1_hasStem : Cond.selects RX1 yX1_hasStem yX1_hasStem ∈ hw_T := hw_in 358 (by decide +kernel) (by decide +kernel)
theorem tw_k_X1_hasStem : Cond.code yX1_hasStem cX1_hasStem 2 (some .boolean) ∈ hw_T := hw_in 359 (by decide +kernel) (by decide +kernel)
theorem tw_m_RX1_90 : Cond.methodLink RX1 90 yX1_allowsClip ∈ hw_T := hw_in 360 (by decide +kernel) (by decide +kernel)
theorem tw_i_X1_allowsClip : Cond.instanceMethod yX1_allowsClip ∈ hw_T := hw_in 361 (by decide +kernel) (by decide +kernel)
theorem tw_s_X1_allowsClip : Cond.selects RX1 yX1_allowsClip yX1_allowsClip ∈ hw_T := hw_in 362 (by decide +kernel) (by decide +kernel)
theorem tw_k_X1_allowsClip : Cond.code yX1_allowsClip cX1_allowsClip 4 (some .boolean) ∈ hw_T := hw_in 363 (by decide +kernel) (by decide +kernel)
theorem tw_m_RX1_94 : Cond.methodLink RX1 94 yX3_hasLeaves ∈ hw_T := hw_in 364 (by decide +kernel) (by decide +kernel)
theorem tw_t_X3_hasLeaves : Cond.static yX3_hasLeaves ∈ hw_T := hw_in 365 (by decide +kernel) (by decide +kernel)
theorem tw_k_X3_hasLeaves : Cond.code yX3_hasLeaves cX3_hasLeaves 3 (some .boolean) ∈ hw_T := hw_in 366 (by decide +kernel) (by decide +kernel)
theorem tw_m_RX3_21 : Cond.methodLink RX3 21 yX0_number ∈ hw_T := hw_in 367 (by decide +kernel) (by decide +kernel)
theorem tw_t_X0_number : Cond.static yX0_number ∈ hw_T := hw_in 368 (by decide +kernel) (by decide +kernel)
theorem tw_k_X0_number : Cond.code yX0_number cX0_number 3 (some .int) ∈ hw_T := hw_in 369 (by decide +kernel) (by decide +kernel)
theorem tw_m_RX3_27 : Cond.methodLink RX3 27 yX3_clipped ∈ hw_T := hw_in 370 (by decide +kernel) (by decide +kernel)
theorem tw_t_X3_clipped : Cond.static yX3_clipped ∈ hw_T := hw_in 371 (by decide +kernel) (by decide +kernel)
theorem tw_k_X3_clipped : Cond.code yX3_clipped cX3_clipped 6 (some .int) ∈ hw_T := hw_in 372 (by decide +kernel) (by decide +kernel)
theorem tw_m_RX3_30 : Cond.methodLink RX3 30 yX0_to ∈ hw_T := hw_in 373 (by decide +kernel) (by decide +kernel)
theorem tw_t_X0_to : Cond.static yX0_to ∈ hw_T := hw_in 374 (by decide +kernel) (by decide +kernel)
theorem tw_k_X0_to : Cond.code yX0_to cX0_to 1 (some .int) ∈ hw_T := hw_in 375 (by decide +kernel) (by decide +kernel)
theorem tw_m_RX3_33 : Cond.methodLink RX3 33 yX0_lost ∈ hw_T := hw_in 376 (by decide +kernel) (by decide +kernel)
theorem tw_t_X0_lost : Cond.static yX0_lost ∈ hw_T := hw_in 377 (by decide +kernel) (by decide +kernel)
theorem tw_k_X0_lost : Cond.code yX0_lost cX0_lost 1 (some .int) ∈ hw_T := hw_in 378 (by decide +kernel) (by decide +kernel)
theorem tw_m_RX3_36 : Cond.methodLink RX3 36 yX0_from ∈ hw_T := hw_in 379 (by decide +kernel) (by decide +kernel)
theorem tw_t_X0_from : Cond.static yX0_from ∈ hw_T := hw_in 380 (by decide +kernel) (by decide +kernel)
theorem tw_k_X0_from : Cond.code yX0_from cX0_from 1 (some .int) ∈ hw_T := hw_in 381 (by decide +kernel) (by decide +kernel)
theorem tw_m_RX3_9 : Cond.methodLink RX3 9 yX3_leavesOf ∈ hw_T := hw_in 382 (by decide +kernel) (by decide +kernel)
theorem tw_t_X3_leavesOf : Cond.static yX3_leavesOf ∈ hw_T := hw_in 383 (by decide +kernel) (by decide +kernel)
theorem tw_k_X3_leavesOf : Cond.code yX3_leavesOf cX3_leavesOf 2 (some .int) ∈ hw_T := hw_in 384 (by decide +kernel) (by decide +kernel)
theorem tw_m_RX3_39 : Cond.methodLink RX3 39 Lib.Math.min.name ∈ hw_T := hw_in 385 (by decide +kernel) (by decide +kernel)
theorem tw_t_Lib_Math_min_name : Cond.static Lib.Math.min.name ∈ hw_T := hw_in 386 (by decide +kernel) (by decide +kernel)
theorem tw_k_Lib_Math_min_name : Cond.code Lib.Math.min.name Lib.Math.min.code 2 (some .int) ∈ hw_T := hw_in 387 (by decide +kernel) (by decide +kernel)
theorem tw_m_RX1_97 : Cond.methodLink RX1 97 yX0_number ∈ hw_T := hw_in 388 (by decide +kernel) (by decide +kernel)
theorem tw_m_RX1_102 : Cond.methodLink RX1 102 yX1_doClip ∈ hw_T := hw_in 389 (by decide +kernel) (by decide +kernel)
theorem tw_i_X1_doClip : Cond.instanceMethod yX1_doClip ∈ hw_T := hw_in 390 (by decide +kernel) (by decide +kernel)
theorem tw_s_X1_doClip : Cond.selects RX1 yX1_doClip yX1_doClip ∈ hw_T := hw_in 391 (by decide +kernel) (by decide +kernel)
theorem tw_k_X1_doClip : Cond.code yX1_doClip cX1_doClip 5 (some .int) ∈ hw_T := hw_in 392 (by decide +kernel) (by decide +kernel)
theorem tw_m_RX1_59 : Cond.methodLink RX1 59 yX3_clipped ∈ hw_T := hw_in 393 (by decide +kernel) (by decide +kernel)
theorem tw_m_RX1_65 : Cond.methodLink RX1 65 yX3_blown ∈ hw_T := hw_in 394 (by decide +kernel) (by decide +kernel)
theorem tw_t_X3_blown : Cond.static yX3_blown ∈ hw_T := hw_in 395 (by decide +kernel) (by decide +kernel)
theorem tw_k_X3_blown : Cond.code yX3_blown cX3_blown 5 (some .int) ∈ hw_T := hw_in 396 (by decide +kernel) (by decide +kernel)
theorem tw_m_RX3_44 : Cond.methodLink RX3 44 yX3_leafy ∈ hw_T := hw_in 397 (by decide +kernel) (by decide +kernel)
theorem tw_t_X3_leafy : Cond.static yX3_leafy ∈ hw_T := hw_in 398 (by decide +kernel) (by decide +kernel)
theorem tw_k_X3_leafy : Cond.code yX3_leafy cX3_leafy 1 (some .int) ∈ hw_T := hw_in 399 (by decide +kernel) (by decide +kernel)
theorem tw_m_RX1_69 : Cond.methodLink RX1 69 yX3_bared ∈ hw_T := hw_in 400 (by decide +kernel) (by decide +kernel)
theorem tw_t_X3_bared : Cond.static yX3_bared ∈ hw_T := hw_in 401 (by decide +kernel) (by decide +kernel)
theorem tw_k_X3_bared : Cond.code yX3_bared cX3_bared 2 (some .int) ∈ hw_T := hw_in 402 (by decide +kernel) (by decide +kernel)
theorem tw_m_RX3_15 : Cond.methodLink RX3 15 yJ6_bitCount_0f7a4 ∈ hw_T := hw_in 403 (by decide +kernel) (by decide +kernel)
theorem tw_t_J6_bitCount_0f7a4 : Cond.static yJ6_bitCount_0f7a4 ∈ hw_T := hw_in 404 (by decide +kernel) (by decide +kernel)
theorem tw_k_J6_bitCount_0f7a4 : Cond.code yJ6_bitCount_0f7a4 cJ6_bitCount_0f7a4 1 (some .int) ∈ hw_T := hw_in 405 (by decide +kernel) (by decide +kernel)
theorem tw_o_RJ6_265 : Cond.constant RJ6 265 (1431655765 : Int32) ∈ hw_T := hw_in 406 (by decide +kernel) (by decide +kernel)
theorem tw_o_RJ6_266 : Cond.constant RJ6 266 (858993459 : Int32) ∈ hw_T := hw_in 407 (by decide +kernel) (by decide +kernel)
theorem tw_o_RJ6_267 : Cond.constant RJ6 267 (252645135 : Int32) ∈ hw_T := hw_in 408 (by decide +kernel) (by decide +kernel)
theorem tw_m_RX1_72 : Cond.methodLink RX1 72 yX1_who ∈ hw_T := hw_in 409 (by decide +kernel) (by decide +kernel)
theorem tw_i_X1_who : Cond.instanceMethod yX1_who ∈ hw_T := hw_in 410 (by decide +kernel) (by decide +kernel)
theorem tw_s_X1_who : Cond.selects RX1 yX1_who yX1_who ∈ hw_T := hw_in 411 (by decide +kernel) (by decide +kernel)
theorem tw_k_X1_who : Cond.code yX1_who cX1_who 2 (some (.object "HedgeClips$Gardener")) ∈ hw_T := hw_in 412 (by decide +kernel) (by decide +kernel)
theorem tw_m_RX1_79 : Cond.methodLink RX1 79 yX3_allLeaves ∈ hw_T := hw_in 413 (by decide +kernel) (by decide +kernel)
theorem tw_t_X3_allLeaves : Cond.static yX3_allLeaves ∈ hw_T := hw_in 414 (by decide +kernel) (by decide +kernel)
theorem tw_k_X3_allLeaves : Cond.code yX3_allLeaves cX3_allLeaves 1 (some .int) ∈ hw_T := hw_in 415 (by decide +kernel) (by decide +kernel)
theorem tw_m_RX1_83 : Cond.methodLink RX1 83 yX1_turnOver ∈ hw_T := hw_in 416 (by decide +kernel) (by decide +kernel)
theorem tw_i_X1_turnOver : Cond.instanceMethod yX1_turnOver ∈ hw_T := hw_in 417 (by decide +kernel) (by decide +kernel)
theorem tw_s_X1_turnOver : Cond.selects RX1 yX1_turnOver yX1_turnOver ∈ hw_T := hw_in 418 (by decide +kernel) (by decide +kernel)
theorem tw_k_X1_turnOver : Cond.code yX1_turnOver cX1_turnOver 1 none ∈ hw_T := hw_in 419 (by decide +kernel) (by decide +kernel)
theorem tw_m_RX8_101 : Cond.methodLink RX8 101 yX1_triesWater ∈ hw_T := hw_in 420 (by decide +kernel) (by decide +kernel)
theorem tw_i_X1_triesWater : Cond.instanceMethod yX1_triesWater ∈ hw_T := hw_in 421 (by decide +kernel) (by decide +kernel)
theorem tw_s_X1_triesWater : Cond.selects RX1 yX1_triesWater yX1_triesWater ∈ hw_T := hw_in 422 (by decide +kernel) (by decide +kernel)
theorem tw_k_X1_triesWater : Cond.code yX1_triesWater cX1_triesWater 2 (some .boolean) ∈ hw_T := hw_in 423 (by decide +kernel) (by decide +kernel)
theorem tw_m_RX1_105 : Cond.methodLink RX1 105 yX3_isFull ∈ hw_T := hw_in 424 (by decide +kernel) (by decide +kernel)
theorem tw_t_X3_isFull : Cond.static yX3_isFull ∈ hw_T := hw_in 425 (by decide +kernel) (by decide +kernel)
theorem tw_k_X3_isFull : Cond.code yX3_isFull cX3_isFull 2 (some .boolean) ∈ hw_T := hw_in 426 (by decide +kernel) (by decide +kernel)
theorem tw_m_RX1_109 : Cond.methodLink RX1 109 yX3_watered ∈ hw_T := hw_in 427 (by decide +kernel) (by decide +kernel)
theorem tw_t_X3_watered : Cond.static yX3_watered ∈ hw_T := hw_in 428 (by decide +kernel) (by decide +kernel)
theorem tw_k_X3_watered : Cond.code yX3_watered cX3_watered 2 (some .int) ∈ hw_T := hw_in 429 (by decide +kernel) (by decide +kernel)
theorem tw_m_RX8_104 : Cond.methodLink RX8 104 yX1_triesWind ∈ hw_T := hw_in 430 (by decide +kernel) (by decide +kernel)
theorem tw_i_X1_triesWind : Cond.instanceMethod yX1_triesWind ∈ hw_T := hw_in 431 (by decide +kernel) (by decide +kernel)
theorem tw_s_X1_triesWind : Cond.selects RX1 yX1_triesWind yX1_triesWind ∈ hw_T := hw_in 432 (by decide +kernel) (by decide +kernel)
theorem tw_k_X1_triesWind : Cond.code yX1_triesWind cX1_triesWind 2 (some .boolean) ∈ hw_T := hw_in 433 (by decide +kernel) (by decide +kernel)
theorem tw_m_RX1_112 : Cond.methodLink RX1 112 yX1_isWind ∈ hw_T := hw_in 434 (by decide +kernel) (by decide +kernel)
theorem tw_t_X1_isWind : Cond.static yX1_isWind ∈ hw_T := hw_in 435 (by decide +kernel) (by decide +kernel)
theorem tw_k_X1_isWind : Cond.code yX1_isWind cX1_isWind 1 (some .boolean) ∈ hw_T := hw_in 436 (by decide +kernel) (by decide +kernel)
theorem tw_m_RX8_107 : Cond.methodLink RX8 107 yX1_turnOver ∈ hw_T := hw_in 437 (by decide +kernel) (by decide +kernel)
theorem tw_m_RX8_110 : Cond.methodLink RX8 110 yX8_triesBestClip ∈ hw_T := hw_in 438 (by decide +kernel) (by decide +kernel)
theorem tw_i_X8_triesBestClip : Cond.instanceMethod yX8_triesBestClip ∈ hw_T := hw_in 440 (by decide +kernel) (by decide +kernel)
theorem tw_k_X8_triesBestClip : Cond.code yX8_triesBestClip cX8_triesBestClip 3 (some .boolean) ∈ hw_T := hw_in 441 (by decide +kernel) (by decide +kernel)
theorem tw_m_RX8_144 : Cond.methodLink RX8 144 yX6_of ∈ hw_T := hw_in 442 (by decide +kernel) (by decide +kernel)
theorem tw_i_X6_of : Cond.instanceMethod yX6_of ∈ hw_T := hw_in 443 (by decide +kernel) (by decide +kernel)
theorem tw_s_X6_of : Cond.selects RX6 yX6_of yX6_of ∈ hw_T := hw_in 444 (by decide +kernel) (by decide +kernel)
theorem tw_k_X6_of : Cond.code yX6_of cX6_of 4 (some (.object "HedgeClips$Outlook")) ∈ hw_T := hw_in 445 (by decide +kernel) (by decide +kernel)
theorem tw_z_RX5 : Cond.instantiable RX5 5 ∈ hw_T := hw_in 446 (by decide +kernel) (by decide +kernel)
theorem tw_m_RX6_29 : Cond.methodLink RX6 29 yX5_init ∈ hw_T := hw_in 447 (by decide +kernel) (by decide +kernel)
theorem tw_i_X5_init : Cond.instanceMethod yX5_init ∈ hw_T := hw_in 448 (by decide +kernel) (by decide +kernel)
theorem tw_k_X5_init : Cond.code yX5_init cX5_init 8 none ∈ hw_T := hw_in 449 (by decide +kernel) (by decide +kernel)
theorem tw_m_RX5_3 : Cond.methodLink RX5 3 objectInit ∈ hw_T := hw_in 450 (by decide +kernel) (by decide +kernel)
theorem tw_m_RX5_15 : Cond.methodLink RX5 15 Lib.Math.min.name ∈ hw_T := hw_in 451 (by decide +kernel) (by decide +kernel)
theorem tw_m_RX5_21 : Cond.methodLink RX5 21 Lib.Math.max.name ∈ hw_T := hw_in 452 (by decide +kernel) (by decide +kernel)
theorem tw_t_Lib_Math_max_name : Cond.static Lib.Math.max.name ∈ hw_T := hw_in 453 (by decide +kernel) (by decide +kernel)
theorem tw_k_Lib_Math_max_name : Cond.code Lib.Math.max.name Lib.Math.max.code 2 (some .int) ∈ hw_T := hw_in 454 (by decide +kernel) (by decide +kernel)
theorem tw_m_RX5_31 : Cond.methodLink RX5 31 yX3_hedges ∈ hw_T := hw_in 455 (by decide +kernel) (by decide +kernel)
theorem tw_t_X3_hedges : Cond.static yX3_hedges ∈ hw_T := hw_in 456 (by decide +kernel) (by decide +kernel)
theorem tw_k_X3_hedges : Cond.code yX3_hedges cX3_hedges 1 (some .int) ∈ hw_T := hw_in 457 (by decide +kernel) (by decide +kernel)
theorem tw_m_RX5_41 : Cond.methodLink RX5 41 yX0_number ∈ hw_T := hw_in 458 (by decide +kernel) (by decide +kernel)
theorem tw_f_RX5_24 : Cond.fieldLink RX5 24 "HedgeClips$Outlook" "stems" "I" ∈ hw_T := hw_in 459 (by decide +kernel) (by decide +kernel)
theorem tw_f_RX5_28 : Cond.fieldLink RX5 28 "HedgeClips$Outlook" "wind" "I" ∈ hw_T := hw_in 460 (by decide +kernel) (by decide +kernel)
theorem tw_f_RX5_11 : Cond.fieldLink RX5 11 "HedgeClips$Outlook" "clips" "[I" ∈ hw_T := hw_in 461 (by decide +kernel) (by decide +kernel)
theorem tw_f_RX5_47 : Cond.fieldLink RX5 47 "HedgeClips$Outlook" "clipCount" "I" ∈ hw_T := hw_in 462 (by decide +kernel) (by decide +kernel)
theorem tw_f_RX5_37 : Cond.fieldLink RX5 37 "HedgeClips$Outlook" "known" "[B" ∈ hw_T := hw_in 463 (by decide +kernel) (by decide +kernel)
theorem tw_l_RX5_stems : Cond.laysFinal RX5 "HedgeClips$Outlook" "stems" "I" ∈ hw_T := hw_in 464 (by decide +kernel) (by decide +kernel)
theorem tw_l_RX5_wind : Cond.laysFinal RX5 "HedgeClips$Outlook" "wind" "I" ∈ hw_T := hw_in 466 (by decide +kernel) (by decide +kernel)
theorem tw_l_RX5_clips : Cond.laysFinal RX5 "HedgeClips$Outlook" "clips" "[I" ∈ hw_T := hw_in 468 (by decide +kernel) (by decide +kernel)
theorem tw_l_RX5_clipCount : Cond.laysFinal RX5 "HedgeClips$Outlook" "clipCount" "I" ∈ hw_T := hw_in 470 (by decide +kernel) (by decide +kernel)
theorem tw_l_RX5_known : Cond.laysFinal RX5 "HedgeClips$Outlook" "known" "[B" ∈ hw_T := hw_in 472 (by decide +kernel) (by decide +kernel)
theorem tw_a_int : Cond.arrayClass .int ∈ hw_T := hw_in 475 (by decide +kernel) (by decide +kernel)
theorem tw_m_RX8_264 : Cond.methodLink RX8 264 yX5_bestClipOf ∈ hw_T := hw_in 476 (by decide +kernel) (by decide +kernel)
theorem tw_i_X5_bestClipOf : Cond.instanceMethod yX5_bestClipOf ∈ hw_T := hw_in 477 (by decide +kernel) (by decide +kernel)
theorem tw_s_X5_bestClipOf : Cond.selects RX5 yX5_bestClipOf yX5_bestClipOf ∈ hw_T := hw_in 478 (by decide +kernel) (by decide +kernel)
theorem tw_k_X5_bestClipOf : Cond.code yX5_bestClipOf cX5_bestClipOf 4 (some .int) ∈ hw_T := hw_in 479 (by decide +kernel) (by decide +kernel)
theorem tw_m_RX5_53 : Cond.methodLink RX5 53 yX5_worthAt ∈ hw_T := hw_in 480 (by decide +kernel) (by decide +kernel)
theorem tw_i_X5_worthAt : Cond.instanceMethod yX5_worthAt ∈ hw_T := hw_in 482 (by decide +kernel) (by decide +kernel)
theorem tw_k_X5_worthAt : Cond.code yX5_worthAt cX5_worthAt 5 (some .int) ∈ hw_T := hw_in 483 (by decide +kernel) (by decide +kernel)
theorem tw_m_RX5_56 : Cond.methodLink RX5 56 yX5_gainAt ∈ hw_T := hw_in 484 (by decide +kernel) (by decide +kernel)
theorem tw_i_X5_gainAt : Cond.instanceMethod yX5_gainAt ∈ hw_T := hw_in 486 (by decide +kernel) (by decide +kernel)
theorem tw_k_X5_gainAt : Cond.code yX5_gainAt cX5_gainAt 6 (some .int) ∈ hw_T := hw_in 487 (by decide +kernel) (by decide +kernel)
theorem tw_m_RX5_50 : Cond.methodLink RX5 50 yX3_clipped ∈ hw_T := hw_in 488 (by decide +kernel) (by decide +kernel)
theorem tw_m_RX5_62 : Cond.methodLink RX5 62 yX3_blown ∈ hw_T := hw_in 489 (by decide +kernel) (by decide +kernel)
theorem tw_m_RX5_65 : Cond.methodLink RX5 65 yX3_bared ∈ hw_T := hw_in 490 (by decide +kernel) (by decide +kernel)
theorem tw_m_RX8_224 : Cond.methodLink RX8 224 yX1_doClip ∈ hw_T := hw_in 491 (by decide +kernel) (by decide +kernel)
theorem tw_m_RL_89 : Cond.methodLink RL 89 yL_tryAbout ∈ hw_T := hw_in 492 (by decide +kernel) (by decide +kernel)
theorem tw_t_L_tryAbout : Cond.static yL_tryAbout ∈ hw_T := hw_in 493 (by decide +kernel) (by decide +kernel)
theorem tw_m_RL_38 : Cond.methodLink RL 38 yX8_about ∈ hw_T := hw_in 495 (by decide +kernel) (by decide +kernel)
theorem tw_i_X8_about : Cond.instanceMethod yX8_about ∈ hw_T := hw_in 496 (by decide +kernel) (by decide +kernel)
theorem tw_s_X8_about : Cond.selects RX8 yX8_about yX8_about ∈ hw_T := hw_in 497 (by decide +kernel) (by decide +kernel)
theorem tw_k_X8_about : Cond.code yX8_about cX8_about 2 (some .int) ∈ hw_T := hw_in 498 (by decide +kernel) (by decide +kernel)
theorem tw_m_RX8_118 : Cond.methodLink RX8 118 yX3_allLeaves ∈ hw_T := hw_in 499 (by decide +kernel) (by decide +kernel)
theorem tw_m_RX8_123 : Cond.methodLink RX8 123 yX3_leafy ∈ hw_T := hw_in 500 (by decide +kernel) (by decide +kernel)
theorem tw_m_RX8_126 : Cond.methodLink RX8 126 yJ6_bitCount_0f7a4 ∈ hw_T := hw_in 501 (by decide +kernel) (by decide +kernel)
theorem tw_m_RX8_137 : Cond.methodLink RX8 137 yX1_allClips ∈ hw_T := hw_in 502 (by decide +kernel) (by decide +kernel)
theorem tw_i_X1_allClips : Cond.instanceMethod yX1_allClips ∈ hw_T := hw_in 503 (by decide +kernel) (by decide +kernel)
theorem tw_s_X1_allClips : Cond.selects RX1 yX1_allClips yX1_allClips ∈ hw_T := hw_in 504 (by decide +kernel) (by decide +kernel)
theorem tw_k_X1_allClips : Cond.code yX1_allClips cX1_allClips 1 (some .int) ∈ hw_T := hw_in 505 (by decide +kernel) (by decide +kernel)
theorem tw_m_RX8_140 : Cond.methodLink RX8 140 yX1_isOver ∈ hw_T := hw_in 506 (by decide +kernel) (by decide +kernel)
theorem tw_i_X1_isOver : Cond.instanceMethod yX1_isOver ∈ hw_T := hw_in 507 (by decide +kernel) (by decide +kernel)
theorem tw_s_X1_isOver : Cond.selects RX1 yX1_isOver yX1_isOver ∈ hw_T := hw_in 508 (by decide +kernel) (by decide +kernel)
theorem tw_k_X1_isOver : Cond.code yX1_isOver cX1_isOver 1 (some .boolean) ∈ hw_T := hw_in 509 (by decide +kernel) (by decide +kernel)
theorem tw_m_RX8_148 : Cond.methodLink RX8 148 yX5_possibleClips ∈ hw_T := hw_in 510 (by decide +kernel) (by decide +kernel)
theorem tw_i_X5_possibleClips : Cond.instanceMethod yX5_possibleClips ∈ hw_T := hw_in 511 (by decide +kernel) (by decide +kernel)
theorem tw_s_X5_possibleClips : Cond.selects RX5 yX5_possibleClips yX5_possibleClips ∈ hw_T := hw_in 512 (by decide +kernel) (by decide +kernel)
theorem tw_k_X5_possibleClips : Cond.code yX5_possibleClips cX5_possibleClips 4 (some .int) ∈ hw_T := hw_in 513 (by decide +kernel) (by decide +kernel)
theorem tw_m_RL_92 : Cond.methodLink RL 92 yL_tryLeaves ∈ hw_T := hw_in 515 (by decide +kernel) (by decide +kernel)
theorem tw_t_L_tryLeaves : Cond.static yL_tryLeaves ∈ hw_T := hw_in 516 (by decide +kernel) (by decide +kernel)
theorem tw_c_RL_13 : Cond.classLink RL 13 "java/lang/IndexOutOfBoundsException" ∈ hw_T := hw_in 518 (by decide +kernel) (by decide +kernel)
theorem tw_m_RL_41 : Cond.methodLink RL 41 yX8_leaves ∈ hw_T := hw_in 519 (by decide +kernel) (by decide +kernel)
theorem tw_i_X8_leaves : Cond.instanceMethod yX8_leaves ∈ hw_T := hw_in 520 (by decide +kernel) (by decide +kernel)
theorem tw_s_X8_leaves : Cond.selects RX8 yX8_leaves yX8_leaves ∈ hw_T := hw_in 521 (by decide +kernel) (by decide +kernel)
theorem tw_k_X8_leaves : Cond.code yX8_leaves cX8_leaves 2 (some .int) ∈ hw_T := hw_in 522 (by decide +kernel) (by decide +kernel)
theorem tw_m_RX8_155 : Cond.methodLink RX8 155 yX8_requireStem ∈ hw_T := hw_in 523 (by decide +kernel) (by decide +kernel)
theorem tw_i_X8_requireStem : Cond.instanceMethod yX8_requireStem ∈ hw_T := hw_in 525 (by decide +kernel) (by decide +kernel)
theorem tw_k_X8_requireStem : Cond.code yX8_requireStem cX8_requireStem 2 none ∈ hw_T := hw_in 526 (by decide +kernel) (by decide +kernel)
theorem tw_m_RX8_298 : Cond.methodLink RX8 298 yX1_hasStem ∈ hw_T := hw_in 527 (by decide +kernel) (by decide +kernel)
theorem tw_c_RX8_166 : Cond.classLink RX8 166 "java/lang/IndexOutOfBoundsException" ∈ hw_T := hw_in 528 (by decide +kernel) (by decide +kernel)
theorem tw_m_RX8_159 : Cond.methodLink RX8 159 yX3_leavesOf ∈ hw_T := hw_in 544 (by decide +kernel) (by decide +kernel)
theorem tw_o_RL_15 : Cond.constant RL 15 (-9999001 : Int32) ∈ hw_T := hw_in 545 (by decide +kernel) (by decide +kernel)
theorem tw_m_RL_95 : Cond.methodLink RL 95 yL_tryWho ∈ hw_T := hw_in 546 (by decide +kernel) (by decide +kernel)
theorem tw_t_L_tryWho : Cond.static yL_tryWho ∈ hw_T := hw_in 547 (by decide +kernel) (by decide +kernel)
theorem tw_m_RL_44 : Cond.methodLink RL 44 yX8_gardener ∈ hw_T := hw_in 549 (by decide +kernel) (by decide +kernel)
theorem tw_i_X8_gardener : Cond.instanceMethod yX8_gardener ∈ hw_T := hw_in 550 (by decide +kernel) (by decide +kernel)
theorem tw_s_X8_gardener : Cond.selects RX8 yX8_gardener yX8_gardener ∈ hw_T := hw_in 551 (by decide +kernel) (by decide +kernel)
theorem tw_k_X8_gardener : Cond.code yX8_gardener cX8_gardener 3 (some .int) ∈ hw_T := hw_in 552 (by decide +kernel) (by decide +kernel)
theorem tw_m_RX8_163 : Cond.methodLink RX8 163 yX1_hasGardener ∈ hw_T := hw_in 553 (by decide +kernel) (by decide +kernel)
theorem tw_t_X1_hasGardener : Cond.static yX1_hasGardener ∈ hw_T := hw_in 554 (by decide +kernel) (by decide +kernel)
theorem tw_k_X1_hasGardener : Cond.code yX1_hasGardener cX1_hasGardener 1 (some .boolean) ∈ hw_T := hw_in 555 (by decide +kernel) (by decide +kernel)
theorem tw_m_RX8_171 : Cond.methodLink RX8 171 yX1_who ∈ hw_T := hw_in 557 (by decide +kernel) (by decide +kernel)
theorem tw_m_RL_99 : Cond.methodLink RL 99 yL_trySetting ∈ hw_T := hw_in 558 (by decide +kernel) (by decide +kernel)
theorem tw_t_L_trySetting : Cond.static yL_trySetting ∈ hw_T := hw_in 559 (by decide +kernel) (by decide +kernel)
theorem tw_m_RL_48 : Cond.methodLink RL 48 yX8_setting ∈ hw_T := hw_in 561 (by decide +kernel) (by decide +kernel)
theorem tw_i_X8_setting : Cond.instanceMethod yX8_setting ∈ hw_T := hw_in 562 (by decide +kernel) (by decide +kernel)
theorem tw_s_X8_setting : Cond.selects RX8 yX8_setting yX8_setting ∈ hw_T := hw_in 563 (by decide +kernel) (by decide +kernel)
theorem tw_k_X8_setting : Cond.code yX8_setting cX8_setting 2 (some .int) ∈ hw_T := hw_in 564 (by decide +kernel) (by decide +kernel)
theorem tw_m_RX8_186 : Cond.methodLink RX8 186 yX8_requireSetting ∈ hw_T := hw_in 565 (by decide +kernel) (by decide +kernel)
theorem tw_t_X8_requireSetting : Cond.static yX8_requireSetting ∈ hw_T := hw_in 566 (by decide +kernel) (by decide +kernel)
theorem tw_k_X8_requireSetting : Cond.code yX8_requireSetting cX8_requireSetting 1 none ∈ hw_T := hw_in 567 (by decide +kernel) (by decide +kernel)
theorem tw_m_RL_102 : Cond.methodLink RL 102 yL_tryPlant ∈ hw_T := hw_in 569 (by decide +kernel) (by decide +kernel)
theorem tw_t_L_tryPlant : Cond.static yL_tryPlant ∈ hw_T := hw_in 570 (by decide +kernel) (by decide +kernel)
theorem tw_m_RL_51 : Cond.methodLink RL 51 yX8_plant ∈ hw_T := hw_in 572 (by decide +kernel) (by decide +kernel)
theorem tw_i_X8_plant : Cond.instanceMethod yX8_plant ∈ hw_T := hw_in 573 (by decide +kernel) (by decide +kernel)
theorem tw_s_X8_plant : Cond.selects RX8 yX8_plant yX8_plant ∈ hw_T := hw_in 574 (by decide +kernel) (by decide +kernel)
theorem tw_k_X8_plant : Cond.code yX8_plant cX8_plant 3 (some .int) ∈ hw_T := hw_in 575 (by decide +kernel) (by decide +kernel)
theorem tw_m_RX8_197 : Cond.methodLink RX8 197 yX3_hedges ∈ hw_T := hw_in 577 (by decide +kernel) (by decide +kernel)
theorem tw_m_RX8_202 : Cond.methodLink RX8 202 yX4_keep ∈ hw_T := hw_in 579 (by decide +kernel) (by decide +kernel)
theorem tw_i_X4_keep : Cond.instanceMethod yX4_keep ∈ hw_T := hw_in 580 (by decide +kernel) (by decide +kernel)
theorem tw_s_X4_keep : Cond.selects RX4 yX4_keep yX4_keep ∈ hw_T := hw_in 581 (by decide +kernel) (by decide +kernel)
theorem tw_k_X4_keep : Cond.code yX4_keep cX4_keep 3 none ∈ hw_T := hw_in 582 (by decide +kernel) (by decide +kernel)
theorem tw_m_RX4_22 : Cond.methodLink RX4 22 yX1_init ∈ hw_T := hw_in 583 (by decide +kernel) (by decide +kernel)
theorem tw_m_RX4_23 : Cond.methodLink RX4 23 yX1_becomes ∈ hw_T := hw_in 584 (by decide +kernel) (by decide +kernel)
theorem tw_i_X1_becomes : Cond.instanceMethod yX1_becomes ∈ hw_T := hw_in 585 (by decide +kernel) (by decide +kernel)
theorem tw_s_X1_becomes : Cond.selects RX1 yX1_becomes yX1_becomes ∈ hw_T := hw_in 586 (by decide +kernel) (by decide +kernel)
theorem tw_k_X1_becomes : Cond.code yX1_becomes cX1_becomes 2 none ∈ hw_T := hw_in 587 (by decide +kernel) (by decide +kernel)
theorem tw_m_RX1_49 : Cond.methodLink RX1 49 yX2_becomes ∈ hw_T := hw_in 588 (by decide +kernel) (by decide +kernel)
theorem tw_i_X2_becomes : Cond.instanceMethod yX2_becomes ∈ hw_T := hw_in 589 (by decide +kernel) (by decide +kernel)
theorem tw_s_X2_becomes : Cond.selects RX2 yX2_becomes yX2_becomes ∈ hw_T := hw_in 590 (by decide +kernel) (by decide +kernel)
theorem tw_k_X2_becomes : Cond.code yX2_becomes cX2_becomes 2 none ∈ hw_T := hw_in 591 (by decide +kernel) (by decide +kernel)
theorem tw_m_RX4_27 : Cond.methodLink RX4 27 Lib.Math.min.name ∈ hw_T := hw_in 592 (by decide +kernel) (by decide +kernel)
theorem tw_m_RX8_206 : Cond.methodLink RX8 206 yX1_replant ∈ hw_T := hw_in 593 (by decide +kernel) (by decide +kernel)
theorem tw_m_RL_105 : Cond.methodLink RL 105 yL_tryClip ∈ hw_T := hw_in 594 (by decide +kernel) (by decide +kernel)
theorem tw_t_L_tryClip : Cond.static yL_tryClip ∈ hw_T := hw_in 595 (by decide +kernel) (by decide +kernel)
theorem tw_m_RL_54 : Cond.methodLink RL 54 yX8_clip ∈ hw_T := hw_in 597 (by decide +kernel) (by decide +kernel)
theorem tw_i_X8_clip : Cond.instanceMethod yX8_clip ∈ hw_T := hw_in 598 (by decide +kernel) (by decide +kernel)
theorem tw_s_X8_clip : Cond.selects RX8 yX8_clip yX8_clip ∈ hw_T := hw_in 599 (by decide +kernel) (by decide +kernel)
theorem tw_k_X8_clip : Cond.code yX8_clip cX8_clip 4 (some .int) ∈ hw_T := hw_in 600 (by decide +kernel) (by decide +kernel)
theorem tw_m_RX8_209 : Cond.methodLink RX8 209 yX8_requireClip ∈ hw_T := hw_in 601 (by decide +kernel) (by decide +kernel)
theorem tw_i_X8_requireClip : Cond.instanceMethod yX8_requireClip ∈ hw_T := hw_in 603 (by decide +kernel) (by decide +kernel)
theorem tw_k_X8_requireClip : Cond.code yX8_requireClip cX8_requireClip 4 none ∈ hw_T := hw_in 604 (by decide +kernel) (by decide +kernel)
theorem tw_m_RX8_324 : Cond.methodLink RX8 324 yX1_allowsClip ∈ hw_T := hw_in 605 (by decide +kernel) (by decide +kernel)
theorem tw_m_RX8_213 : Cond.methodLink RX8 213 yX3_hasLeaves ∈ hw_T := hw_in 607 (by decide +kernel) (by decide +kernel)
theorem tw_m_RX8_218 : Cond.methodLink RX8 218 yX0_number ∈ hw_T := hw_in 609 (by decide +kernel) (by decide +kernel)
theorem tw_m_RL_109 : Cond.methodLink RL 109 yL_tryWater ∈ hw_T := hw_in 610 (by decide +kernel) (by decide +kernel)
theorem tw_t_L_tryWater : Cond.static yL_tryWater ∈ hw_T := hw_in 611 (by decide +kernel) (by decide +kernel)
theorem tw_m_RL_58 : Cond.methodLink RL 58 yX8_water ∈ hw_T := hw_in 613 (by decide +kernel) (by decide +kernel)
theorem tw_i_X8_water : Cond.instanceMethod yX8_water ∈ hw_T := hw_in 614 (by decide +kernel) (by decide +kernel)
theorem tw_s_X8_water : Cond.selects RX8 yX8_water yX8_water ∈ hw_T := hw_in 615 (by decide +kernel) (by decide +kernel)
theorem tw_k_X8_water : Cond.code yX8_water cX8_water 2 (some .int) ∈ hw_T := hw_in 616 (by decide +kernel) (by decide +kernel)
theorem tw_m_RX8_227 : Cond.methodLink RX8 227 yX3_isFull ∈ hw_T := hw_in 617 (by decide +kernel) (by decide +kernel)
theorem tw_m_RX8_233 : Cond.methodLink RX8 233 yX3_watered ∈ hw_T := hw_in 619 (by decide +kernel) (by decide +kernel)
theorem tw_m_RL_112 : Cond.methodLink RL 112 yL_tryWind ∈ hw_T := hw_in 620 (by decide +kernel) (by decide +kernel)
theorem tw_t_L_tryWind : Cond.static yL_tryWind ∈ hw_T := hw_in 621 (by decide +kernel) (by decide +kernel)
theorem tw_m_RL_61 : Cond.methodLink RL 61 yX8_wind ∈ hw_T := hw_in 623 (by decide +kernel) (by decide +kernel)
theorem tw_i_X8_wind : Cond.instanceMethod yX8_wind ∈ hw_T := hw_in 624 (by decide +kernel) (by decide +kernel)
theorem tw_s_X8_wind : Cond.selects RX8 yX8_wind yX8_wind ∈ hw_T := hw_in 625 (by decide +kernel) (by decide +kernel)
theorem tw_k_X8_wind : Cond.code yX8_wind cX8_wind 3 (some .int) ∈ hw_T := hw_in 626 (by decide +kernel) (by decide +kernel)
theorem tw_m_RX8_236 : Cond.methodLink RX8 236 yX1_isWind ∈ hw_T := hw_in 627 (by decide +kernel) (by decide +kernel)
theorem tw_m_RL_115 : Cond.methodLink RL 115 yL_tryLay ∈ hw_T := hw_in 629 (by decide +kernel) (by decide +kernel)
theorem tw_t_L_tryLay : Cond.static yL_tryLay ∈ hw_T := hw_in 630 (by decide +kernel) (by decide +kernel)
theorem tw_m_RL_64 : Cond.methodLink RL 64 yX8_set ∈ hw_T := hw_in 632 (by decide +kernel) (by decide +kernel)
theorem tw_i_X8_set : Cond.instanceMethod yX8_set ∈ hw_T := hw_in 633 (by decide +kernel) (by decide +kernel)
theorem tw_s_X8_set : Cond.selects RX8 yX8_set yX8_set ∈ hw_T := hw_in 634 (by decide +kernel) (by decide +kernel)
theorem tw_k_X8_set : Cond.code yX8_set cX8_set 4 (some .int) ∈ hw_T := hw_in 635 (by decide +kernel) (by decide +kernel)
theorem tw_m_RL_118 : Cond.methodLink RL 118 yL_tryUndo ∈ hw_T := hw_in 637 (by decide +kernel) (by decide +kernel)
theorem tw_t_L_tryUndo : Cond.static yL_tryUndo ∈ hw_T := hw_in 638 (by decide +kernel) (by decide +kernel)
theorem tw_m_RL_67 : Cond.methodLink RL 67 yX8_undo ∈ hw_T := hw_in 640 (by decide +kernel) (by decide +kernel)
theorem tw_i_X8_undo : Cond.instanceMethod yX8_undo ∈ hw_T := hw_in 641 (by decide +kernel) (by decide +kernel)
theorem tw_s_X8_undo : Cond.selects RX8 yX8_undo yX8_undo ∈ hw_T := hw_in 642 (by decide +kernel) (by decide +kernel)
theorem tw_k_X8_undo : Cond.code yX8_undo cX8_undo 1 (some .int) ∈ hw_T := hw_in 643 (by decide +kernel) (by decide +kernel)
theorem tw_m_RX8_243 : Cond.methodLink RX8 243 yX4_givesBack ∈ hw_T := hw_in 644 (by decide +kernel) (by decide +kernel)
theorem tw_i_X4_givesBack : Cond.instanceMethod yX4_givesBack ∈ hw_T := hw_in 645 (by decide +kernel) (by decide +kernel)
theorem tw_s_X4_givesBack : Cond.selects RX4 yX4_givesBack yX4_givesBack ∈ hw_T := hw_in 646 (by decide +kernel) (by decide +kernel)
theorem tw_k_X4_givesBack : Cond.code yX4_givesBack cX4_givesBack 4 (some .boolean) ∈ hw_T := hw_in 647 (by decide +kernel) (by decide +kernel)
theorem tw_m_RL_121 : Cond.methodLink RL 121 yL_tryGoes ∈ hw_T := hw_in 649 (by decide +kernel) (by decide +kernel)
theorem tw_t_L_tryGoes : Cond.static yL_tryGoes ∈ hw_T := hw_in 650 (by decide +kernel) (by decide +kernel)
theorem tw_m_RL_70 : Cond.methodLink RL 70 yX8_goesOn ∈ hw_T := hw_in 652 (by decide +kernel) (by decide +kernel)
theorem tw_i_X8_goesOn : Cond.instanceMethod yX8_goesOn ∈ hw_T := hw_in 653 (by decide +kernel) (by decide +kernel)
theorem tw_s_X8_goesOn : Cond.selects RX8 yX8_goesOn yX8_goesOn ∈ hw_T := hw_in 654 (by decide +kernel) (by decide +kernel)
theorem tw_k_X8_goesOn : Cond.code yX8_goesOn cX8_goesOn 6 (some .int) ∈ hw_T := hw_in 655 (by decide +kernel) (by decide +kernel)
theorem tw_m_RX8_272 : Cond.methodLink RX8 272 yX5_behindBestClip ∈ hw_T := hw_in 657 (by decide +kernel) (by decide +kernel)
theorem tw_i_X5_behindBestClip : Cond.instanceMethod yX5_behindBestClip ∈ hw_T := hw_in 658 (by decide +kernel) (by decide +kernel)
theorem tw_s_X5_behindBestClip : Cond.selects RX5 yX5_behindBestClip yX5_behindBestClip ∈ hw_T := hw_in 659 (by decide +kernel) (by decide +kernel)
theorem tw_k_X5_behindBestClip : Cond.code yX5_behindBestClip cX5_behindBestClip 3 (some .int) ∈ hw_T := hw_in 660 (by decide +kernel) (by decide +kernel)
theorem tw_m_RX5_59 : Cond.methodLink RX5 59 yX5_bestClipOf ∈ hw_T := hw_in 661 (by decide +kernel) (by decide +kernel)
theorem tw_m_RL_124 : Cond.methodLink RL 124 yL_tryKeep ∈ hw_T := hw_in 662 (by decide +kernel) (by decide +kernel)
theorem tw_t_L_tryKeep : Cond.static yL_tryKeep ∈ hw_T := hw_in 663 (by decide +kernel) (by decide +kernel)
theorem tw_m_RL_73 : Cond.methodLink RL 73 yX8_save ∈ hw_T := hw_in 665 (by decide +kernel) (by decide +kernel)
theorem tw_i_X8_save : Cond.instanceMethod yX8_save ∈ hw_T := hw_in 666 (by decide +kernel) (by decide +kernel)
theorem tw_s_X8_save : Cond.selects RX8 yX8_save yX8_save ∈ hw_T := hw_in 667 (by decide +kernel) (by decide +kernel)
theorem tw_k_X8_save : Cond.code yX8_save cX8_save 3 (some .int) ∈ hw_T := hw_in 668 (by decide +kernel) (by decide +kernel)
theorem tw_m_RX8_290 : Cond.methodLink RX8 290 yX1_becomes ∈ hw_T := hw_in 670 (by decide +kernel) (by decide +kernel)
theorem tw_m_RL_127 : Cond.methodLink RL 127 yL_tryBack ∈ hw_T := hw_in 671 (by decide +kernel) (by decide +kernel)
theorem tw_t_L_tryBack : Cond.static yL_tryBack ∈ hw_T := hw_in 672 (by decide +kernel) (by decide +kernel)
theorem tw_m_RL_76 : Cond.methodLink RL 76 yX8_restore ∈ hw_T := hw_in 674 (by decide +kernel) (by decide +kernel)
theorem tw_i_X8_restore : Cond.instanceMethod yX8_restore ∈ hw_T := hw_in 675 (by decide +kernel) (by decide +kernel)
theorem tw_s_X8_restore : Cond.selects RX8 yX8_restore yX8_restore ∈ hw_T := hw_in 676 (by decide +kernel) (by decide +kernel)
theorem tw_k_X8_restore : Cond.code yX8_restore cX8_restore 3 (some .int) ∈ hw_T := hw_in 677 (by decide +kernel) (by decide +kernel)
theorem tw_m_RL_136 : Cond.methodLink RL 136 yL_would ∈ hw_T := hw_in 679 (by decide +kernel) (by decide +kernel)
theorem tw_t_L_would : Cond.static yL_would ∈ hw_T := hw_in 680 (by decide +kernel) (by decide +kernel)
theorem tw_m_RL_7 : Cond.methodLink RL 7 yX8_ifClipped ∈ hw_T := hw_in 682 (by decide +kernel) (by decide +kernel)
theorem tw_i_X8_ifClipped : Cond.instanceMethod yX8_ifClipped ∈ hw_T := hw_in 683 (by decide +kernel) (by decide +kernel)
theorem tw_s_X8_ifClipped : Cond.selects RX8 yX8_ifClipped yX8_ifClipped ∈ hw_T := hw_in 684 (by decide +kernel) (by decide +kernel)
theorem tw_k_X8_ifClipped : Cond.code yX8_ifClipped cX8_ifClipped 7 (some .int) ∈ hw_T := hw_in 685 (by decide +kernel) (by decide +kernel)
theorem tw_m_RX8_251 : Cond.methodLink RX8 251 yX3_clipped ∈ hw_T := hw_in 686 (by decide +kernel) (by decide +kernel)
theorem tw_m_RX8_254 : Cond.methodLink RX8 254 yX3_blown ∈ hw_T := hw_in 687 (by decide +kernel) (by decide +kernel)
theorem tw_m_RX8_257 : Cond.methodLink RX8 257 yX3_bared ∈ hw_T := hw_in 688 (by decide +kernel) (by decide +kernel)
theorem tw_m_RX8_260 : Cond.methodLink RX8 260 yX8_worthOf ∈ hw_T := hw_in 689 (by decide +kernel) (by decide +kernel)
theorem tw_i_X8_worthOf : Cond.instanceMethod yX8_worthOf ∈ hw_T := hw_in 691 (by decide +kernel) (by decide +kernel)
theorem tw_k_X8_worthOf : Cond.code yX8_worthOf cX8_worthOf 3 (some .int) ∈ hw_T := hw_in 692 (by decide +kernel) (by decide +kernel)
theorem tw_m_RL_139 : Cond.methodLink RL 139 yL_doScript ∈ hw_T := hw_in 694 (by decide +kernel) (by decide +kernel)
theorem tw_t_L_doScript : Cond.static yL_doScript ∈ hw_T := hw_in 695 (by decide +kernel) (by decide +kernel)
theorem tw_m_RL_19 : Cond.methodLink RL 19 yX8_runScript ∈ hw_T := hw_in 697 (by decide +kernel) (by decide +kernel)
theorem tw_i_X8_runScript : Cond.instanceMethod yX8_runScript ∈ hw_T := hw_in 698 (by decide +kernel) (by decide +kernel)
theorem tw_s_X8_runScript : Cond.selects RX8 yX8_runScript yX8_runScript ∈ hw_T := hw_in 699 (by decide +kernel) (by decide +kernel)
theorem tw_k_X8_runScript : Cond.code yX8_runScript cX8_runScript 5 (some .int) ∈ hw_T := hw_in 700 (by decide +kernel) (by decide +kernel)
theorem tw_m_RX8_284 : Cond.methodLink RX8 284 yX8_withoutGroups ∈ hw_T := hw_in 702 (by decide +kernel) (by decide +kernel)
theorem tw_t_X8_withoutGroups : Cond.static yX8_withoutGroups ∈ hw_T := hw_in 703 (by decide +kernel) (by decide +kernel)
theorem tw_k_X8_withoutGroups : Cond.code yX8_withoutGroups cX8_withoutGroups 6 (some .long) ∈ hw_T := hw_in 704 (by decide +kernel) (by decide +kernel)
theorem tw_o_RX8_293 : Cond.constantLong RX8 293 (10000 : Int64) ∈ hw_T := hw_in 705 (by decide +kernel) (by decide +kernel)
theorem tw_m_RX8_295 : Cond.methodLink RX8 295 yX8_obeyGroup ∈ hw_T := hw_in 707 (by decide +kernel) (by decide +kernel)
theorem tw_i_X8_obeyGroup : Cond.instanceMethod yX8_obeyGroup ∈ hw_T := hw_in 709 (by decide +kernel) (by decide +kernel)
theorem tw_k_X8_obeyGroup : Cond.code yX8_obeyGroup cX8_obeyGroup 6 (some .boolean) ∈ hw_T := hw_in 710 (by decide +kernel) (by decide +kernel)
theorem tw_m_RX8_275 : Cond.methodLink RX8 275 yX8_winnerOf ∈ hw_T := hw_in 711 (by decide +kernel) (by decide +kernel)
theorem tw_i_X8_winnerOf : Cond.instanceMethod yX8_winnerOf ∈ hw_T := hw_in 713 (by decide +kernel) (by decide +kernel)
theorem tw_k_X8_winnerOf : Cond.code yX8_winnerOf cX8_winnerOf 4 (some .int) ∈ hw_T := hw_in 714 (by decide +kernel) (by decide +kernel)
theorem tw_o_RL_143 : Cond.constantLong RL 143 (10000 : Int64) ∈ hw_T := hw_in 715 (by decide +kernel) (by decide +kernel)
theorem tw_m_RL_145 : Cond.methodLink RL 145 yL_doSimulate ∈ hw_T := hw_in 716 (by decide +kernel) (by decide +kernel)
theorem tw_t_L_doSimulate : Cond.static yL_doSimulate ∈ hw_T := hw_in 717 (by decide +kernel) (by decide +kernel)
theorem tw_m_RL_23 : Cond.methodLink RL 23 yX8_simulate ∈ hw_T := hw_in 719 (by decide +kernel) (by decide +kernel)
theorem tw_i_X8_simulate : Cond.instanceMethod yX8_simulate ∈ hw_T := hw_in 720 (by decide +kernel) (by decide +kernel)
theorem tw_s_X8_simulate : Cond.selects RX8 yX8_simulate yX8_simulate ∈ hw_T := hw_in 721 (by decide +kernel) (by decide +kernel)
theorem tw_k_X8_simulate : Cond.code yX8_simulate cX8_simulate 8 (some .int) ∈ hw_T := hw_in 722 (by decide +kernel) (by decide +kernel)
theorem tw_o_RX8_303 : Cond.constantLong RX8 303 (6364136223846793005 : Int64) ∈ hw_T := hw_in 724 (by decide +kernel) (by decide +kernel)
theorem tw_o_RX8_305 : Cond.constantLong RX8 305 (1442695040888963407 : Int64) ∈ hw_T := hw_in 725 (by decide +kernel) (by decide +kernel)
theorem tw_m_RX8_307 : Cond.methodLink RX8 307 yX8_simulateTurn ∈ hw_T := hw_in 726 (by decide +kernel) (by decide +kernel)
theorem tw_i_X8_simulateTurn : Cond.instanceMethod yX8_simulateTurn ∈ hw_T := hw_in 728 (by decide +kernel) (by decide +kernel)
theorem tw_k_X8_simulateTurn : Cond.code yX8_simulateTurn cX8_simulateTurn 3 none ∈ hw_T := hw_in 729 (by decide +kernel) (by decide +kernel)
theorem tw_m_RX8_310 : Cond.methodLink RX8 310 yX1_allFines ∈ hw_T := hw_in 730 (by decide +kernel) (by decide +kernel)
theorem tw_i_X1_allFines : Cond.instanceMethod yX1_allFines ∈ hw_T := hw_in 731 (by decide +kernel) (by decide +kernel)
theorem tw_s_X1_allFines : Cond.selects RX1 yX1_allFines yX1_allFines ∈ hw_T := hw_in 732 (by decide +kernel) (by decide +kernel)
theorem tw_k_X1_allFines : Cond.code yX1_allFines cX1_allFines 1 (some .int) ∈ hw_T := hw_in 733 (by decide +kernel) (by decide +kernel)
theorem tw_m_RX8_313 : Cond.methodLink RX8 313 Lib.Math.min.name ∈ hw_T := hw_in 734 (by decide +kernel) (by decide +kernel)
theorem tw_m_RL_184 : Cond.methodLink RL 184 yL_holds ∈ hw_T := hw_in 735 (by decide +kernel) (by decide +kernel)
theorem tw_t_L_holds : Cond.static yL_holds ∈ hw_T := hw_in 736 (by decide +kernel) (by decide +kernel)
theorem tw_m_RL_149 : Cond.methodLink RL 149 yX8_worth ∈ hw_T := hw_in 738 (by decide +kernel) (by decide +kernel)
theorem tw_i_X8_worth : Cond.instanceMethod yX8_worth ∈ hw_T := hw_in 739 (by decide +kernel) (by decide +kernel)
theorem tw_s_X8_worth : Cond.selects RX8 yX8_worth yX8_worth ∈ hw_T := hw_in 740 (by decide +kernel) (by decide +kernel)
theorem tw_k_X8_worth : Cond.code yX8_worth cX8_worth 1 (some .int) ∈ hw_T := hw_in 741 (by decide +kernel) (by decide +kernel)
theorem tw_m_RL_152 : Cond.methodLink RL 152 yX8_bestClip ∈ hw_T := hw_in 742 (by decide +kernel) (by decide +kernel)
theorem tw_i_X8_bestClip : Cond.instanceMethod yX8_bestClip ∈ hw_T := hw_in 743 (by decide +kernel) (by decide +kernel)
theorem tw_s_X8_bestClip : Cond.selects RX8 yX8_bestClip yX8_bestClip ∈ hw_T := hw_in 744 (by decide +kernel) (by decide +kernel)
theorem tw_k_X8_bestClip : Cond.code yX8_bestClip cX8_bestClip 1 (some .int) ∈ hw_T := hw_in 745 (by decide +kernel) (by decide +kernel)
theorem tw_m_RL_155 : Cond.methodLink RL 155 yX8_bestClips ∈ hw_T := hw_in 746 (by decide +kernel) (by decide +kernel)
theorem tw_i_X8_bestClips : Cond.instanceMethod yX8_bestClips ∈ hw_T := hw_in 747 (by decide +kernel) (by decide +kernel)
theorem tw_s_X8_bestClips : Cond.selects RX8 yX8_bestClips yX8_bestClips ∈ hw_T := hw_in 748 (by decide +kernel) (by decide +kernel)
theorem tw_k_X8_bestClips : Cond.code yX8_bestClips cX8_bestClips 1 (some .int) ∈ hw_T := hw_in 749 (by decide +kernel) (by decide +kernel)
theorem tw_m_RX8_267 : Cond.methodLink RX8 267 yX5_countBestClips ∈ hw_T := hw_in 750 (by decide +kernel) (by decide +kernel)
theorem tw_i_X5_countBestClips : Cond.instanceMethod yX5_countBestClips ∈ hw_T := hw_in 751 (by decide +kernel) (by decide +kernel)
theorem tw_s_X5_countBestClips : Cond.selects RX5 yX5_countBestClips yX5_countBestClips ∈ hw_T := hw_in 752 (by decide +kernel) (by decide +kernel)
theorem tw_k_X5_countBestClips : Cond.code yX5_countBestClips cX5_countBestClips 5 (some .int) ∈ hw_T := hw_in 753 (by decide +kernel) (by decide +kernel)
theorem tw_m_RL_158 : Cond.methodLink RL 158 yX8_winner ∈ hw_T := hw_in 754 (by decide +kernel) (by decide +kernel)
theorem tw_i_X8_winner : Cond.instanceMethod yX8_winner ∈ hw_T := hw_in 755 (by decide +kernel) (by decide +kernel)
theorem tw_s_X8_winner : Cond.selects RX8 yX8_winner yX8_winner ∈ hw_T := hw_in 756 (by decide +kernel) (by decide +kernel)
theorem tw_k_X8_winner : Cond.code yX8_winner cX8_winner 1 (some .int) ∈ hw_T := hw_in 757 (by decide +kernel) (by decide +kernel)
theorem tw_m_RL_172 : Cond.methodLink RL 172 yL_act ∈ hw_T := hw_in 758 (by decide +kernel) (by decide +kernel)
theorem tw_t_L_act : Cond.static yL_act ∈ hw_T := hw_in 759 (by decide +kernel) (by decide +kernel)
theorem tw_m_RL_161 : Cond.methodLink RL 161 yX8_pass ∈ hw_T := hw_in 761 (by decide +kernel) (by decide +kernel)
theorem tw_i_X8_pass : Cond.instanceMethod yX8_pass ∈ hw_T := hw_in 762 (by decide +kernel) (by decide +kernel)
theorem tw_s_X8_pass : Cond.selects RX8 yX8_pass yX8_pass ∈ hw_T := hw_in 763 (by decide +kernel) (by decide +kernel)
theorem tw_k_X8_pass : Cond.code yX8_pass cX8_pass 1 (some .int) ∈ hw_T := hw_in 764 (by decide +kernel) (by decide +kernel)
theorem tw_m_RL_180 : Cond.methodLink RL 180 yL_alike ∈ hw_T := hw_in 765 (by decide +kernel) (by decide +kernel)
theorem tw_t_L_alike : Cond.static yL_alike ∈ hw_T := hw_in 766 (by decide +kernel) (by decide +kernel)
theorem tw_m_RL_164 : Cond.methodLink RL 164 yX8_bestWater ∈ hw_T := hw_in 768 (by decide +kernel) (by decide +kernel)
theorem tw_i_X8_bestWater : Cond.instanceMethod yX8_bestWater ∈ hw_T := hw_in 769 (by decide +kernel) (by decide +kernel)
theorem tw_s_X8_bestWater : Cond.selects RX8 yX8_bestWater yX8_bestWater ∈ hw_T := hw_in 770 (by decide +kernel) (by decide +kernel)
theorem tw_k_X8_bestWater : Cond.code yX8_bestWater cX8_bestWater 5 (some .int) ∈ hw_T := hw_in 771 (by decide +kernel) (by decide +kernel)
theorem tw_m_RL_188 : Cond.methodLink RL 188 yL_best ∈ hw_T := hw_in 772 (by decide +kernel) (by decide +kernel)
theorem tw_t_L_best : Cond.static yL_best ∈ hw_T := hw_in 773 (by decide +kernel) (by decide +kernel)
theorem tw_m_RL_195 : Cond.methodLink RL 195 yL_thrown ∈ hw_T := hw_in 775 (by decide +kernel) (by decide +kernel)
theorem tw_t_L_thrown : Cond.static yL_thrown ∈ hw_T := hw_in 776 (by decide +kernel) (by decide +kernel)
theorem tw_k_L_thrown : Cond.code yL_thrown cL_thrown 1 (some .boolean) ∈ hw_T := hw_in 777 (by decide +kernel) (by decide +kernel)
theorem tw_m_RL_192 : Cond.methodLink RL 192 yL_waters ∈ hw_T := hw_in 778 (by decide +kernel) (by decide +kernel)
theorem tw_t_L_waters : Cond.static yL_waters ∈ hw_T := hw_in 779 (by decide +kernel) (by decide +kernel)
theorem tw_o_RL_175 : Cond.constant RL 175 (100000 : Int32) ∈ hw_T := hw_in 781 (by decide +kernel) (by decide +kernel)
/-! links to private members of nest mates -/
def hw_NF : List (String × Nat × String × String × String × String) := [(RX8, 175, RX2, "fines", "I", RX8), (RX1, 56, RX2, "fines", "I", RX8), (RX8, 180, RX2, "clips", "I", RX8), (RX1, 53, RX2, "clips", "I", RX8), (RX8, 183, RX2, "taken", "I", RX8), (RX1, 76, RX2, "taken", "I", RX8), (RX6, 17, RX1, "stems", "I", RX8), (RX8, 114, RX1, "stems", "I", RX8), (RX8, 116, RX1, "hedge", "I", RX8), (RX6, 23, RX1, "wind", "I", RX8), (RX8, 131, RX1, "wind", "I", RX8), (RX8, 134, RX1, "turn", "I", RX8), (RX8, 189, RX1, "fine", "I", RX8), (RX6, 26, RX1, "reach", "I", RX8), (RX8, 192, RX1, "reach", "I", RX8), (RX8, 248, RX4, "size", "I", RX8), (RX8, 60, RX7, "length", "I", RX8)]
def hw_NM : List (String × Nat × MethodName × String) := [(RX1, 11, yX2_init, RX8), (RX8, 21, yX4_init, RX8), (RX8, 32, yX7_init, RX8), (RX8, 39, yX6_init, RX8), (RX8, 279, yX5_worthAt, RX8)]
theorem tw_fn_RX8_175 : (RX8, 175, RX2, "fines", "I", RX8) ∈ hw_NF := List.mem_of_getElem? (i := 0) rfl
theorem tw_fn_RX1_56 : (RX1, 56, RX2, "fines", "I", RX8) ∈ hw_NF := List.mem_of_getElem? (i := 1) rfl
theorem tw_fn_RX8_180 : (RX8, 180, RX2, "clips", "I", RX8) ∈ hw_NF := List.mem_of_getElem? (i := 2) rfl
theorem tw_fn_RX1_53 : (RX1, 53, RX2, "clips", "I", RX8) ∈ hw_NF := List.mem_of_getElem? (i := 3) rfl
theorem tw_fn_RX8_183 : (RX8, 183, RX2, "taken", "I", RX8) ∈ hw_NF := List.mem_of_getElem? (i := 4) rfl
theorem tw_fn_RX1_76 : (RX1, 76, RX2, "taken", "I", RX8) ∈ hw_NF := List.mem_of_getElem? (i := 5) rfl
theorem tw_fn_RX6_17 : (RX6, 17, RX1, "stems", "I", RX8) ∈ hw_NF := List.mem_of_getElem? (i := 6) rfl
theorem tw_fn_RX8_114 : (RX8, 114, RX1, "stems", "I", RX8) ∈ hw_NF := List.mem_of_getElem? (i := 7) rfl
theorem tw_fn_RX8_116 : (RX8, 116, RX1, "hedge", "I", RX8) ∈ hw_NF := List.mem_of_getElem? (i := 8) rfl
theorem tw_fn_RX6_23 : (RX6, 23, RX1, "wind", "I", RX8) ∈ hw_NF := List.mem_of_getElem? (i := 9) rfl
theorem tw_fn_RX8_131 : (RX8, 131, RX1, "wind", "I", RX8) ∈ hw_NF := List.mem_of_getElem? (i := 10) rfl
theorem tw_fn_RX8_134 : (RX8, 134, RX1, "turn", "I", RX8) ∈ hw_NF := List.mem_of_getElem? (i := 11) rfl
theorem tw_fn_RX8_189 : (RX8, 189, RX1, "fine", "I", RX8) ∈ hw_NF := List.mem_of_getElem? (i := 12) rfl
theorem tw_fn_RX6_26 : (RX6, 26, RX1, "reach", "I", RX8) ∈ hw_NF := List.mem_of_getElem? (i := 13) rfl
theorem tw_fn_RX8_192 : (RX8, 192, RX1, "reach", "I", RX8) ∈ hw_NF := List.mem_of_getElem? (i := 14) rfl
theorem tw_fn_RX8_248 : (RX8, 248, RX4, "size", "I", RX8) ∈ hw_NF := List.mem_of_getElem? (i := 15) rfl
theorem tw_fn_RX8_60 : (RX8, 60, RX7, "length", "I", RX8) ∈ hw_NF := List.mem_of_getElem? (i := 16) rfl
theorem tw_mn_RX1_11 : (RX1, 11, yX2_init, RX8) ∈ hw_NM := List.mem_of_getElem? (i := 0) rfl
theorem tw_mn_RX8_21 : (RX8, 21, yX4_init, RX8) ∈ hw_NM := List.mem_of_getElem? (i := 1) rfl
theorem tw_mn_RX8_32 : (RX8, 32, yX7_init, RX8) ∈ hw_NM := List.mem_of_getElem? (i := 2) rfl
theorem tw_mn_RX8_39 : (RX8, 39, yX6_init, RX8) ∈ hw_NM := List.mem_of_getElem? (i := 3) rfl
theorem tw_mn_RX8_279 : (RX8, 279, yX5_worthAt, RX8) ∈ hw_NM := List.mem_of_getElem? (i := 4) rfl
def hv_N (s : State) : Prop := (∀ q ∈ hw_NF, va_Nw (.fieldLinkNest q.1 q.2.1 q.2.2.1 q.2.2.2.1 q.2.2.2.2.1 q.2.2.2.2.2) s) ∧ (∀ q ∈ hw_NM, va_Nw (.methodLinkNest q.1 q.2.1 q.2.2.1 q.2.2.2) s) ∧ va_AO RX1 s ∧ va_AO RX5 s
theorem hv_N.warm {s U : State} (hW : s.WarmedH U.vm) (h : hv_N s) : hv_N U := ⟨fun q hq => va_Nw.warmF hW (h.1 q hq), fun q hq => va_Nw.warmM hW (h.2.1 q hq), va_AO.moved hW.alike h.2.2.1, va_AO.moved hW.alike h.2.2.2⟩
theorem hv_N.same {u U : State} (e : u.vm = U.vm) (h : hv_N u) : hv_N U := ⟨fun q hq => va_Nw.same rfl e (h.1 q hq), fun q hq => va_Nw.same rfl e (h.2.1 q hq), va_AO.moved (e ▸ Vm.Alike.refl _) h.2.2.1, va_AO.moved (e ▸ Vm.Alike.refl _) h.2.2.2⟩
theorem hw_nest {args : Array Value} {s : State} (h : ∀ w ∈ lw_tbl, w.before args s = true) : hv_N s := by
  refine ⟨?_, ?_, va_AO.of (h _ (List.mem_of_getElem? (i := 120) (by decide +kernel))), va_AO.of (h _ (List.mem_of_getElem? (i := 154) (by decide +kernel)))⟩
  · intro q hq
    simp only [hw_NF, List.mem_cons, List.not_mem_nil, or_false] at hq
    rcases hq with rfl | rfl | rfl | rfl | rfl | rfl | rfl | rfl | rfl | rfl | rfl | rfl | rfl | rfl | rfl | rfl | rfl
    · exact va_Nw.of rfl (h _ (List.mem_of_getElem? (i := 52) (by decide +kernel)))
    · exact va_Nw.of rfl (h _ (List.mem_of_getElem? (i := 53) (by decide +kernel)))
    · exact va_Nw.of rfl (h _ (List.mem_of_getElem? (i := 55) (by decide +kernel)))
    · exact va_Nw.of rfl (h _ (List.mem_of_getElem? (i := 56) (by decide +kernel)))
    · exact va_Nw.of rfl (h _ (List.mem_of_getElem? (i := 58) (by decide +kernel)))
    · exact va_Nw.of rfl (h _ (List.mem_of_getElem? (i := 59) (by decide +kernel)))
    · exact va_Nw.of rfl (h _ (List.mem_of_getElem? (i := 79) (by decide +kernel)))
    · exact va_Nw.of rfl (h _ (List.mem_of_getElem? (i := 81) (by decide +kernel)))
    · exact va_Nw.of rfl (h _ (List.mem_of_getElem? (i := 83) (by decide +kernel)))
    · exact va_Nw.of rfl (h _ (List.mem_of_getElem? (i := 85) (by decide +kernel)))
    · exact va_Nw.of rfl (h _ (List.mem_of_getElem? (i := 86) (by decide +kernel)))
    · exact va_Nw.of rfl (h _ (List.mem_of_getElem? (i := 88) (by decide +kernel)))
    · exact va_Nw.of rfl (h _ (List.mem_of_getElem? (i := 90) (by decide +kernel)))
    · exact va_Nw.of rfl (h _ (List.mem_of_getElem? (i := 92) (by decide +kernel)))
    · exact va_Nw.of rfl (h _ (List.mem_of_getElem? (i := 93) (by decide +kernel)))
    · exact va_Nw.of rfl (h _ (List.mem_of_getElem? (i := 123) (by decide +kernel)))
    · exact va_Nw.of rfl (h _ (List.mem_of_getElem? (i := 140) (by decide +kernel)))
  · intro q hq
    simp only [hw_NM, List.mem_cons, List.not_mem_nil, or_false] at hq
    rcases hq with rfl | rfl | rfl | rfl | rfl
    · exact va_Nw.of rfl (h _ (List.mem_of_getElem? (i := 47) (by decide +kernel)))
    · exact va_Nw.of rfl (h _ (List.mem_of_getElem? (i := 115) (by decide +kernel)))
    · exact va_Nw.of rfl (h _ (List.mem_of_getElem? (i := 134) (by decide +kernel)))
    · exact va_Nw.of rfl (h _ (List.mem_of_getElem? (i := 149) (by decide +kernel)))
    · exact va_Nw.of rfl (h _ (List.mem_of_getElem? (i := 693) (by decide +kernel)))
theorem tw_u_1 : ∀ w ∈ u_ws RX1 TX1 8, w ∈ hw_T := by
  intro w hw
  obtain ⟨k, hk, rfl⟩ := List.mem_map.mp hw
  have hk := List.mem_range.mp hk
  rcases (show k = 0 ∨ k = 1 ∨ k = 2 ∨ k = 3 ∨ k = 4 ∨ k = 5 ∨ k = 6 ∨ k = 7 by omega) with rfl | rfl | rfl | rfl | rfl | rfl | rfl | rfl
  · exact tw_l_RX1_stems
  · exact tw_l_RX1_hedge
  · exact tw_l_RX1_wind
  · exact tw_l_RX1_turn
  · exact tw_l_RX1_fine
  · exact tw_l_RX1_reach
  · exact tw_l_RX1_first
  · exact tw_l_RX1_second
theorem tw_u_2 : ∀ w ∈ u_ws RX2 TX2 3, w ∈ hw_T := by
  intro w hw
  obtain ⟨k, hk, rfl⟩ := List.mem_map.mp hw
  have hk := List.mem_range.mp hk
  rcases (show k = 0 ∨ k = 1 ∨ k = 2 by omega) with rfl | rfl | rfl
  · exact tw_l_RX2_fines
  · exact tw_l_RX2_clips
  · exact tw_l_RX2_taken
theorem tw_u_4 : ∀ w ∈ u_ws RX4 TX4 3, w ∈ hw_T := by
  intro w hw
  obtain ⟨k, hk, rfl⟩ := List.mem_map.mp hw
  have hk := List.mem_range.mp hk
  rcases (show k = 0 ∨ k = 1 ∨ k = 2 by omega) with rfl | rfl | rfl
  · exact tw_l_RX4_ring
  · exact tw_l_RX4_size
  · exact tw_l_RX4_next
theorem tw_u_5 : ∀ w ∈ u_ws RX5 TX5 5, w ∈ hw_T := by
  intro w hw
  obtain ⟨k, hk, rfl⟩ := List.mem_map.mp hw
  have hk := List.mem_range.mp hk
  rcases (show k = 0 ∨ k = 1 ∨ k = 2 ∨ k = 3 ∨ k = 4 by omega) with rfl | rfl | rfl | rfl | rfl
  · exact tw_l_RX5_stems
  · exact tw_l_RX5_wind
  · exact tw_l_RX5_clips
  · exact tw_l_RX5_clipCount
  · exact tw_l_RX5_known
theorem tw_u_6 : ∀ w ∈ u_ws RX6 TX6 1, w ∈ hw_T := by
  intro w hw
  obtain ⟨k, hk, rfl⟩ := List.mem_map.mp hw
  have hk := List.mem_range.mp hk
  rcases (show k = 0 by omega) with rfl
  · exact tw_l_RX6_made
theorem tw_u_7 : ∀ w ∈ u_ws RX7 TX7 2, w ∈ hw_T := by
  intro w hw
  obtain ⟨k, hk, rfl⟩ := List.mem_map.mp hw
  have hk := List.mem_range.mp hk
  rcases (show k = 0 ∨ k = 1 by omega) with rfl | rfl
  · exact tw_l_RX7_signs
  · exact tw_l_RX7_length
theorem tw_u_8 : ∀ w ∈ u_ws RX8 TX8 6, w ∈ hw_T := by
  intro w hw
  obtain ⟨k, hk, rfl⟩ := List.mem_map.mp hw
  have hk := List.mem_range.mp hk
  rcases (show k = 0 ∨ k = 1 ∨ k = 2 ∨ k = 3 ∨ k = 4 ∨ k = 5 by omega) with rfl | rfl | rfl | rfl | rfl | rfl
  · exact tw_l_RX8_now
  · exact tw_l_RX8_copy
  · exact tw_l_RX8_memory
  · exact tw_l_RX8_slots
  · exact tw_l_RX8_text
  · exact tw_l_RX8_outlooks
end
section
/-! the words of the law's longer methods: the code is named alike on both sides -/
set_option maxRecDepth 100000 in
theorem tw_k_L_refuses : Cond.code yL_refuses cL_refuses 6 (some .boolean) ∈ hw_T := hw_in 185 rfl (by decide +kernel)
set_option maxRecDepth 100000 in
theorem tw_k_L_holds : Cond.code yL_holds cL_holds 18 (some .boolean) ∈ hw_T := hw_in 737 rfl (by decide +kernel)
set_option maxRecDepth 100000 in
theorem tw_k_L_act : Cond.code yL_act cL_act 6 (some .int) ∈ hw_T := hw_in 760 rfl (by decide +kernel)
set_option maxRecDepth 100000 in
theorem tw_k_L_alike : Cond.code yL_alike cL_alike 5 (some .boolean) ∈ hw_T := hw_in 767 rfl (by decide +kernel)
set_option maxRecDepth 100000 in
theorem tw_k_L_best : Cond.code yL_best cL_best 14 (some .boolean) ∈ hw_T := hw_in 774 rfl (by decide +kernel)
set_option maxRecDepth 100000 in
theorem tw_k_L_waters : Cond.code yL_waters cL_waters 11 (some .boolean) ∈ hw_T := hw_in 780 rfl (by decide +kernel)
end
