/-! THE CLAIM OUT OF ONE WALK OF THE LAW'S BODY. Your part is whole_start (and what it stands on); all else here is the same for every law, but numbers. -/
def R_law : String := "HedgeClipsLaw"
def lw_P (b : Addr) (xs : List Int32) (args : Array Value) (s : State) : Prop := args = #[.ref b] ∧ s.IntsAt b xs ∧ xs.length ≤ 2560 ∧ (Jvm.Cond.and given_1 narrow_1).before args s = true
def lw_Q (_ : Array Value) (s : State) (o : Outcome) (t : State) : Prop := o = .returned (some (.int 1)) ∧ Framed s o t [] 601024 7293034
def lw_Z (below : List Frame) (a : Array Value) (s : State) : State → Prop := fun t => ∃ o, t.status = .running ∧ Ended t below o ∧ lw_Q a s o t
/-- the law's own end, with 1 on the stack, nothing written that was there before, its room as the claim has it -/
theorem lw_ret {p : Program} {l : Launch} {e : Env} {s : State} {m : MethodId} {below : List Frame} {meth : Method} {c : Code} {b : Nat} (hx : p.tables.exec = Jvm.exec) (hb : c.code = code) (hr : meth.sig.returnType = ret) (hlocks : meth.locks = false) {pc : Nat} {H : Heap} {ls : Array Slot} (hdg : decode code pc = .ok (.ireturn, 1)) : W p l e room_1 s m #[Value.ref b] below meth c H [] 601024 7293034 (lw_Z below #[Value.ref b] s) (F0 m pc ls [.int 1]) := by
  intro T hT X
  obtain ⟨fs, hret, hrun, hended, hW, hframe⟩ := X.leave (v := some (.int 1)) (hlocks := hlocks) (fun h => by rw [hr] at h; cases h)
  have hmeth' : T.vm.method? m = some meth := X.method'
  refine ⟨T.setFrames fs, ?_, .returned (some (.int 1)), hrun, hended, rfl, ⟨_, rfl⟩, hW, hframe⟩
  jvm_step X.here [X.here.top, hx, hb, hdg, hmeth', hr, ret, narrow_b1]
  (try refine ⟨rfl, ?_⟩); (try refine ⟨rfl, ?_⟩)
  first | (intro acts; rw [hret _ acts rfl rfl rfl]) | rw [hret _ _ rfl rfl rfl]
  exact Steps.refl _
/-- what holds at the law's entry: the machine, the code, the tables' words (any of lw_tbl by 'hts w (by decide +kernel)'), the script of L ints xs at the cell b, what the Statement gives of the start (any of its parts by flat_of_before) -/
def lw_At (p : Program) (s : State) (m : MethodId) (meth : Method) (c : Code) (b L : Nat) (xs : Nat → Int32) : Prop :=
  p.tables.exec = Jvm.exec ∧ c.code = code ∧ meth.sig.returnType = ret ∧ c.maxLocals = 7 ∧ s.vm.findClass R_law = some m.cls ∧ (∀ w ∈ lw_tbl, w.before #[Value.ref b] s = true) ∧ va_X b L xs s s.heap ∧ b < s.heap.size ∧ meth.locks = false ∧ (Jvm.Cond.and given_1 narrow_1).before #[Value.ref b] s = true
theorem lc_end {p : Program} {l : Launch} {e : Env} {s : State} {m : MethodId} {below : List Frame} {meth : Method} {c : Code} {D : va_G} {dA : Nat → ClassId} {b ce sl : Nat} {ws : va_W} {lv : List (Nat × Value)} (C : hv_C p s m #[Value.ref b] c cL_law 7 D dA (fun q : Nat => s.heap.size ≤ q) s.heap RL (hw_W yX9_thrown cX9_thrown 1 (some .int))) (hr : meth.sig.returnType = ret) (hlocks : meth.locks = false) (hc : ce ≤ 601024) (hs : sl ≤ 7293034) : hv_V p l e room_1 s m #[Value.ref b] below meth c 7 D (fun q : Nat => s.heap.size ≤ q) s.heap (lw_Z below #[Value.ref b] s) ce sl ws lv [] 1446 := by
  refine hv_iconst C dL_law_1446 (v := 1) rfl ?_
  intro H locs la hP hD hS hl
  refine va_forget (fun q hq => hS.2.2 q hq) ?_
  refine W.widen (k := 601024) (n := 7293034) hc hs ?_
  exact lw_ret C.1.1 C.1.2.1 hr hlocks dL_law_1447
theorem whole_start {p : Program} {e : Env} {s : State} {m : MethodId} {below : List Frame} {meth : Method} {c : Code} (l : Launch) (hflags : l.flags = flags0) {b L : Nat} {xs : Nat → Int32} (hL : L ≤ 2560) (C0 : lw_At p s m meth c b L xs) : W p l e room_1 s m #[Value.ref b] below meth c s.heap [] 0 0 (lw_Z below #[Value.ref b] s) (entryFrame m ([Value.ref b] : List Value).toArray 7) := by
  obtain ⟨hx, hb, hr, hml, hown, hts, hX, hbl, hlocks, hgv⟩ := id C0
  obtain ⟨D, dA, sa, hK, hN, hX8, hZ⟩ := st_ok hts hgv
  have hst : l.stackTraces = false := by
    unfold Launch.stackTraces
    rw [hflags]
    decide +kernel
  have hT2 : ∀ w ∈ hw_W yX9_thrown cX9_thrown 1 (some .int), w.before #[Value.ref b] s = true := fun w hw => by
    rcases List.mem_cons.mp hw with e9 | e9
    · rw [e9]; exact hts _ (List.mem_filter.mp tw_k_X9_thrown).1
    · exact hts _ (List.mem_filter.mp e9).1
  have C : hv_C p s m #[Value.ref b] c cL_law 7 D dA (fun q : Nat => s.heap.size ≤ q) s.heap RL (hw_W yX9_thrown cX9_thrown 1 (some .int)) := ⟨⟨hx, hb, hml, hown, hT2⟩, hK, fun q h => h, hN⟩
  have X : hy_X s (fun q : Nat => s.heap.size ≤ q) sa := ⟨hX8, hZ _ (fun a h => Nat.not_le.mpr h)⟩
  have hl := lv_entry ([.ref b]) (n := 7) (Nat.le_of_ble_eq_true rfl)
  rw [lg_entry_eq]
  have hgo : hv_V p l e room_1 s m #[Value.ref b] below meth c 7 D (fun q : Nat => s.heap.size ≤ q) s.heap (lw_Z below #[Value.ref b] s) 0 0 [] [(0, .ref b)] [] 0 := lc_go C X hst hX hbl (Nat.not_le.mpr hbl) hL (fun i xx g0 g1 g2 c0 c1 c2 mm rr sl tt ss oo ma m9 xt nw tr di ke ik wt o9 n tx g gc sz nx al ga ct sal sga sct oal oa kf rf t d kp ld wv sp ou f h2 => lc_end C hr hlocks (by omega) (by omega))
  exact hgo s.heap [] _ (fun k q h => by simp at h) ⟨fun i j p q h => by simp at h, fun k q h => by simp at h⟩ va_S.rf hl
