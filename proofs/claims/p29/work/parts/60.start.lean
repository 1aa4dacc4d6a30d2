/-! THE CLAIM OUT OF ONE WALK OF THE LAW'S BODY. Your part is whole_start (and what it stands on); all else here is the same for every law, but numbers. -/
def R_law : String := "HedgeClipsLaw"
def lw_P (b : Addr) (xs : List Int32) (args : Array Value) (s : State) : Prop := args = #[.ref b] ∧ s.IntsAt b xs ∧ xs.length ≤ 260 ∧ (Jvm.Cond.and given_1 narrow_1).before args s = true
def lw_Q (_ : Array Value) (s : State) (o : Outcome) (t : State) : Prop := o = .returned (some (.int 1)) ∧ Framed s o t [] 600104 7301314
def lw_Z (below : List Frame) (a : Array Value) (s : State) : State → Prop := fun t => ∃ o, t.status = .running ∧ Ended t below o ∧ lw_Q a s o t
/-- the law's own end, with 1 on the stack, nothing written that was there before, its room as the claim has it -/
theorem lw_ret {p : Program} {l : Launch} {e : Env} {s : State} {m : MethodId} {below : List Frame} {meth : Method} {c : Code} {b : Nat} (hx : p.tables.exec = Jvm.exec) (hb : c.code = code) (hr : meth.sig.returnType = ret) (hlocks : meth.locks = false) {pc : Nat} {H : Heap} {ls : Array Slot} (hdg : decode code pc = .ok (.ireturn, 1)) : W p l e room_1 s m #[Value.ref b] below meth c H [] 600104 7301314 (lw_Z below #[Value.ref b] s) (F0 m pc ls [.int 1]) := by
  intro T hT X
  obtain ⟨fs, hret, hrun, hended, hW, hframe⟩ := X.leave (v := some (.int 1)) (hlocks := hlocks) (fun h => by rw [hr] at h; cases h)
  have hmeth' : T.vm.method? m = some meth := X.method'
  refine ⟨T.setFrames fs, ?_, .returned (some (.int 1)), hrun, hended, rfl, ⟨_, rfl⟩, hW, hframe⟩
  jvm_step X.here [X.here.top, hx, hb, hdg, hmeth', hr, ret, narrow_b1]
  (try refine ⟨rfl, ?_⟩); (try refine ⟨rfl, ?_⟩)
  first | (intro acts; rw [hret _ acts rfl rfl rfl]) | rw [hret _ _ rfl rfl rfl]
  exact Steps.refl _
/-- what holds at the law's entry: the machine, the code, the tables' words (any of lw_tbl by 'hts w (by decide +kernel)'), the script of L ints xs at the cell b, what the Statement gives of the start (any of its parts by flat_of_before) -/
def lw_At (p : Program) (s : State) (m : MethodId) (meth : Method) (c : Code) (b L : Nat) (xs : Nat → Int32) : Prop :=
  p.tables.exec = Jvm.exec ∧ c.code = code ∧ meth.sig.returnType = ret ∧ c.maxLocals = 8 ∧ s.vm.findClass R_law = some m.cls ∧ (∀ w ∈ lw_tbl, w.before #[Value.ref b] s = true) ∧ va_X b L xs s s.heap ∧ b < s.heap.size ∧ meth.locks = false ∧ (Jvm.Cond.and given_1 narrow_1).before #[Value.ref b] s = true

/-! the script's ints, one by one -/
def hc_P (D : va_G) (dA : Nat → ClassId) (b9 L : Nat) (xs : Nat → Int32) (sz : Nat) (U : State) : Prop := hv_P D dA [] sz U ∧ va_X b9 L xs U U.heap ∧ b9 < U.heap.size
theorem hc_blind {D : va_G} {dA : Nat → ClassId} {b9 L : Nat} {xs : Nat → Int32} {sz : Nat} {av : List Value} : FrameBlind (va_Pc av (hc_P D dA b9 L xs sz)) := fun a U g mk q => by
  obtain ⟨q0, ⟨q1, qP, qK, qD, qN⟩, qX, qb⟩ := q
  exact ⟨q0, ⟨q1, qP, va_K.moved (u := U) (U := U.calling g mk a) (Vm.Alike.refl U.vm) qK, qD, qN.same rfl⟩, va_X.moved (u := U) (U := U.calling g mk a) (Vm.Alike.refl U.vm) qX, qb⟩
section HC
variable {l : Launch} {D : va_G} {dA : Nat → ClassId} {y : MethodName} {mc ms d maxL n index : Nat} {ret : Option FieldType} {wd : List Cond} {S : Type} {rv : S → Option Value} {post : S → Prop} {w1 : S → va_W} {b9 L : Nat} {xs : Nat → Int32} {av : List Value}
theorem hc_of {own : String} {cc : ByteArray} {ws' : List Cond} (ho : y.cls = own) (hy : plainName y.cls = true) (hw : wd = Cond.code y cc maxL ret :: ws') (ha : (lg_sl av).length ≤ maxL)
    (body : ∀ (p : Program) (e : Env) (s : State) (m : MethodId) (args : Array Value) (below : List Frame) (meth : Method) (c : Code), hv_C p s m args c cc maxL D dA (va_A [] s.heap.size) s.heap own wd → va_X b9 L xs s s.heap → b9 < s.heap.size → (meth.sig.returnType = ret ∧ meth.locks = false ∧ meth.name = y.name) →
      hv_V p l e (hv_rm d mc ms) s m args below meth c maxL D (va_A [] s.heap.size) s.heap (MQ below (hv_Q D rv post w1 (va_A [] s.heap.size)) args s mc ms (va_A [] s.heap.size)) 0 0 [] (lv_args 0 av) [] 0) : ∀ sz : Nat, Met l y wd (hv_rm d mc ms) (va_Pc av (hc_P D dA b9 L xs sz)) (hv_Q D rv post w1 (va_A [] sz)) mc ms (va_A [] sz) := by
  intro sz
  refine Met.ofW (cc := cc) (maxL := maxL) (ret := ret) hy hw ?_
  intro p e s m args below meth c s₁ B hml hv
  obtain ⟨rfl, ⟨rfl, hP, hK, hD0, hN⟩, hX, hb⟩ := hv
  have hts := atoms_spec (ws := wd) B.pre
  have hown : s.vm.findClass own = some m.cls := ho ▸ findClass_of_methodNamed B.named
  have hl := lv_entry av (n := maxL) ha
  rw [lg_entry_eq]
  exact body p e s m av.toArray below meth c ⟨⟨B.exec, B.bytes, hml, hown, hts⟩, hK, fun q h => Or.inr h, hN⟩ hX hb ⟨B.returns, B.notSynchronized, (name_of_methodNamed B.named B.method).1⟩ s.heap [] _ hP hD0.self va_S.rf hl
end HC
section HC2
variable {p : Program} {l : Launch} {e : Env} {R : Room} {s : State} {m : MethodId} {args : Array Value} {below : List Frame} {meth : Method} {c : Code} {Q : State → Prop} {cc : ByteArray} {nL : Nat} {D : va_G} {dA : Nat → ClassId} {A : Nat → Prop} {own : String} {Ts : List Cond} {ce sl : Nat} {ws : va_W} {lv : List (Nat × Value)} {st : List Value} {pc : Nat}
variable {y : MethodName} {bytes : ByteArray} {maxL index n mc ms d : Nat} {ret : Option FieldType} {wd : List Cond} {As rest : List Value} {S : Type} {rv : S → Option Value} {post : S → Prop} {w1 : S → va_W} {b9 L : Nat} {xs : Nat → Int32}
theorem hc_callS (C : hv_C p s m args c cc nL D dA A s.heap own Ts) (hX : va_X b9 L xs s s.heap) (hbl : b9 < s.heap.size) (hbA : ¬ A b9) (hM : ∀ sz : Nat, Met l y wd (hv_rm d mc ms) (va_Pc As (hc_P D dA b9 L xs sz)) (hv_Q D rv post w1 (va_A [] sz)) mc ms (va_A [] sz)) (cw : CallB R s args own index y bytes maxL ret wd (hv_rm d mc ms) mc ms n ∧ (Cond.static y).before args s = true) (hn : As.length = n)
    (hst : st = As.reverse ++ rest) (hroom : (rest.map fun v => v.category).sum ≤ 8)
    (hdg : decode cc pc = .ok (.invokestatic index, 3)) (hf : ce + mc ≤ R.cells ∧ sl + ms ≤ R.slots)
    (K : ∀ u : S, post u → hv_V p l e R s m args below meth c nL D A s.heap Q (ce + mc) (sl + ms) (w1 u ++ ws) lv ((rv u).toList ++ rest) (pc + 3)) :
    hv_V p l e R s m args below meth c nL D A s.heap Q ce sl ws lv st pc := by
  refine hv_after (a := As.toArray) (wc := []) (wr := ws) C (List.Perm.of_eq (List.nil_append _).symm) (fun H locs la hP hD hS hl => ?_) K
  have hk : H[b9]? = s.heap[b9]? := hS.2.1 b9 hbl hbA
  exact va_runS (As := As) (rest := rest) C.1 (hM H.size) cw ⟨hc_blind, fun U hU hW => ⟨rfl, ⟨by rw [hU], (fun k q h => by simp at h), va_K.moved hW.alike C.2.1, ⟨fun i j p q h => by simp at h, fun k q h => by simp at h⟩, C.2.2.2.warm hW⟩, by rw [hU]; exact va_X.moved hW.alike (hX.kept hk), by rw [hU]; exact Nat.lt_of_lt_of_le hbl hS.1⟩⟩ rfl hn hl.1 hst (lv_room hroom) hdg hf
end HC2
theorem lw_and (v : Int32) : ∃ x : Int, v &&& 2147483647 = zI x ∧ 0 ≤ x ∧ x < 2147483648 := by
  have h : (v &&& 2147483647).toBitVec.toNat ≤ 2147483647 := by
    show (v.toBitVec &&& (2147483647 : Int32).toBitVec).toNat ≤ 2147483647
    rw [BitVec.toNat_and, show (2147483647 : Int32).toBitVec.toNat = 2147483647 from by decide]
    exact Nat.and_le_right
  have e : (v &&& 2147483647).toInt = (v &&& 2147483647).toBitVec.toInt := rfl
  refine ⟨(v &&& 2147483647).toInt, zI_of _, ?_⟩
  rw [e, BitVec.toInt_eq_toNat_of_lt (by omega)]
  omega
set_option maxRecDepth 100000 in
theorem k_L_cell (l : Launch) (D : va_G) (dA : Nat → ClassId) (b9 L : Nat) (xs : Nat → Int32) (hL : L ≤ 260) (k : Nat) (hk : k < 1000) {z : Int} (ez : z = (k : Int)) : ∀ sz : Nat, Met l yL_cell (hw_W yL_cell cL_cell 2 (some .int)) (hv_rm 47 0 0) (va_Pc [.ref b9, .int (zI (z))] (hc_P D dA b9 L xs sz)) (hv_Q D (fun u : Int => some (.int (zI u))) (fun u => 0 ≤ u ∧ u < 2147483648) (fun _ => []) (va_A [] sz)) 0 0 (va_A [] sz) := by
  subst ez
  refine hc_of (own := RL) (cc := cL_cell) (maxL := 2) (ret := some .int) rfl (by decide) rfl (Nat.le_of_ble_eq_true rfl) ?_
  intro p e s m args below meth c C hX hbl M
  have hbA : ¬ va_A [] s.heap.size b9 := by
    rintro (⟨k9, e9, h9⟩ | h9)
    · simp at h9
    · omega
  refine hv_lveq (lv' := [(0, .ref b9), (1, .int (zI ((k : Int))))]) rfl ?_
  refine hv_iload_n C dL_cell_0 1 rfl ?_
  refine hv_aload_n C dL_cell_1 0 rfl ?_
  refine hy_slen C hX hbl hbA dL_cell_2 ?_
  refine hv_topi (y := zI ((L : Nat) : Int)) (zI_nat _).symm ?_
  refine hv_icmp_ge C dL_cell_3 (tgt := 12) (by decide) (zI_le (by omega)) (fun hc => ?_) (fun hc => ?_)
  · refine hv_ldc C dL_cell_12 (hw_c tw_o_RL_130) ?_
    refine hv_iload_n C dL_cell_14 1 rfl ?_
    refine hv_iconst C dL_cell_15 (v := zI (3)) rfl ?_
    refine hv_iadd C dL_cell_16 rfl ?_
    refine hv_imul C dL_cell_17 rfl ?_
    refine hv_sipush C dL_cell_18 (v := zI (11437)) (by decide +kernel) ?_
    refine hv_iadd C dL_cell_21 rfl ?_
    refine hv_ldc C dL_cell_22 (hw_c tw_o_RL_131) ?_
    refine hv_iand C dL_cell_24 rfl ?_
    obtain ⟨x, ex, hx⟩ := lw_and (15519347 * (zI (k : Int) + zI 3) + zI 11437)
    refine hv_topi ex ?_
    exact hv_iret C M dL_cell_25 rfl rfl x hx rfl [] (List.Perm.of_eq (List.append_nil _).symm) (Nat.le_refl _) (Nat.le_refl _)
  · refine hv_aload_n C dL_cell_6 0 rfl ?_
    refine hv_iload_n C dL_cell_7 1 rfl ?_
    refine hy_sld C hX hbl hbA dL_cell_8 k (zI_nat _) (by omega) (by omega) ?_
    refine hv_goto C dL_cell_9 (tgt := 22) (by decide) ?_
    refine hv_ldc C dL_cell_22 (hw_c tw_o_RL_131) ?_
    refine hv_iand C dL_cell_24 rfl ?_
    obtain ⟨x, ex, hx⟩ := lw_and (xs k)
    refine hv_topi ex ?_
    exact hv_iret C M dL_cell_25 rfl rfl x hx rfl [] (List.Perm.of_eq (List.append_nil _).symm) (Nat.le_refl _) (Nat.le_refl _)

