/-! the law: what the tables and the start give -/
theorem st_ar {args : Array Value} {s : State} {ty : FieldType} (h : (Cond.arrayClass ty).before args s = true) (hno : ∀ C9, ty ≠ .object C9) : ∃ cA : ClassId, ArrOfT s cA ty ∧ va_RA s cA ty := by
  obtain ⟨cA, k, comp, h1, h2, h3⟩ := Cond.arrayClass_spec h
  refine ⟨cA, fun n z => ⟨fun k9 h9 => (by cases h9), k, h2, comp, h3⟩, ?_⟩
  cases ty with
  | object C9 => exact absurd rfl (hno C9)
  | _ => exact h1
theorem st_ao {args : Array Value} {s : State} {Cn : String} (h : (Cond.arrayOver (.object Cn)).before args s = true) : ∃ cA : ClassId, ArrOfT s cA (.object Cn) ∧ va_RA s cA (.object Cn) := by
  obtain ⟨comp, cA, k, h1, h2, h3, h4, h5⟩ := Cond.arrayOver_spec h
  exact ⟨cA, fun n z => ⟨fun k9 h9 => (by cases h9), k, h3, comp, h4⟩, k, comp, h3, h4, h1, h5⟩
noncomputable def st_sa (args : Array Value) (s : State) : Nat → Nat := fun k => Classical.epsilon (fun a : Nat => (Term.string RX8 k).eval args s none [] s = some (.ref a))
theorem st_str {args : Array Value} {s : State} {k : Nat} {tx : String} {cur : Nat} (hcur : s.vm.findClass RX8 = some cur) (h : (Cond.stringRef RX8 k tx).before args s = true) : vk_R RX8 k tx (st_sa args s k) s := by
  obtain ⟨-, -, -, a, -, -, -, -, -, hev⟩ := Cond.stringRef_spec hcur h
  exact vk_R.of h (Classical.epsilon_spec (p := fun a : Nat => (Term.string RX8 k).eval args s none [] s = some (.ref a)) ⟨a, hev⟩)

set_option maxRecDepth 100000 in
theorem st_ok {args : Array Value} {s : State} (hts : ∀ w ∈ lw_tbl, w.before args s = true) (hgv : (Jvm.Cond.and given_1 narrow_1).before args s = true) : ∃ (D : va_G) (dA : Nat → ClassId) (sa : Nat → Nat), va_K D vwCl (hv_tys dA) s ∧ hv_N s ∧ hx_N sa s ∧ ∀ A : Nat → Prop, (∀ a, a < s.heap.size → ¬ A a) → hx_Z A s s.heap := by
  have hT : ∀ w ∈ hw_T, w.before args s = true := fun w hw => hts w (List.mem_filter.mp hw).1
  have hs := flat_of_before _ hgv
  obtain ⟨c0, i0, k0⟩ := u_known (C := RX1) (T := TX1) (N := 8) (n := 8) hT tw_u_1 (hT _ tw_z_RX1)
  obtain ⟨c1, i1, k1⟩ := u_known (C := RX2) (T := TX2) (N := 3) (n := 3) hT tw_u_2 (hT _ tw_z_RX2)
  obtain ⟨c2, i2, k2⟩ := u_known (C := RX4) (T := TX4) (N := 3) (n := 3) hT tw_u_4 (hT _ tw_z_RX4)
  obtain ⟨c3, i3, k3⟩ := u_known (C := RX5) (T := TX5) (N := 5) (n := 5) hT tw_u_5 (hT _ tw_z_RX5)
  obtain ⟨c4, i4, k4⟩ := u_known (C := RX6) (T := TX6) (N := 1) (n := 1) hT tw_u_6 (hT _ tw_z_RX6)
  obtain ⟨c5, i5, k5⟩ := u_known (C := RX7) (T := TX7) (N := 2) (n := 2) hT tw_u_7 (hT _ tw_z_RX7)
  obtain ⟨c6, i6, k6⟩ := u_known (C := RX8) (T := TX8) (N := 6) (n := 6) hT tw_u_8 (hT _ tw_z_RX8)
  obtain ⟨a0, r0⟩ := st_ar (hT _ tw_a_int) (fun _ h => by cases h)
  obtain ⟨a1, r1⟩ := st_ar (hT _ tw_a_byte) (fun _ h => by cases h)
  obtain ⟨a2, r2⟩ := st_ar (hT _ tw_a_char) (fun _ h => by cases h)
  obtain ⟨a3, r3⟩ := st_ar (hT _ tw_a_int) (fun _ h => by cases h)
  obtain ⟨a4, r4⟩ := st_ar (hT _ tw_a_int) (fun _ h => by cases h)
  obtain ⟨a5, r5⟩ := st_ao (Cn := RX1) (hts _ (List.mem_of_getElem? (i := 120) (by decide +kernel)))
  obtain ⟨a6, r6⟩ := st_ao (Cn := RX5) (hts _ (List.mem_of_getElem? (i := 154) (by decide +kernel)))
  refine ⟨(fun k => if k = 0 then c0 else if k = 1 then c1 else if k = 2 then c2 else if k = 3 then c3 else if k = 4 then c4 else if k = 5 then c5 else c6, fun k => if k = 0 then i0 else if k = 1 then i1 else if k = 2 then i2 else if k = 3 then i3 else if k = 4 then i4 else if k = 5 then i5 else i6), fun k => if k = 0 then a0 else if k = 1 then a1 else if k = 2 then a2 else if k = 3 then a3 else if k = 4 then a4 else if k = 5 then a5 else a6, st_sa args s, ⟨?_, ?_⟩, hw_nest hts, ⟨?_, ?_, ?_, ?_⟩, ?_⟩
  · intro k q hq
    match k, hq with
    | 0, hq => cases hq; exact k0
    | 1, hq => cases hq; exact k1
    | 2, hq => cases hq; exact k2
    | 3, hq => cases hq; exact k3
    | 4, hq => cases hq; exact k4
    | 5, hq => cases hq; exact k5
    | 6, hq => cases hq; exact k6
    | k + 7, hq => simp [vwCl] at hq
  · intro k q hq
    match k, hq with
    | 0, hq => cases hq; exact r0
    | 1, hq => cases hq; exact r1
    | 2, hq => cases hq; exact r2
    | 3, hq => cases hq; exact r3
    | 4, hq => cases hq; exact r4
    | 5, hq => cases hq; exact r5
    | 6, hq => cases hq; exact r6
    | k + 7, hq => simp [hv_tys] at hq
  · intro q hq
    obtain ⟨-, hcur, -⟩ := k6
    simp only [hx_S, List.mem_cons, List.not_mem_nil, or_false] at hq
    rcases hq with rfl | rfl | rfl | rfl | rfl | rfl | rfl | rfl | rfl | rfl | rfl | rfl | rfl | rfl | rfl | rfl | rfl | rfl | rfl | rfl | rfl
    · exact st_str hcur (hts _ (List.mem_of_getElem? (i := 239) (by decide +kernel)))
    · exact st_str hcur (hts _ (List.mem_of_getElem? (i := 279) (by decide +kernel)))
    · exact st_str hcur (hts _ (List.mem_of_getElem? (i := 323) (by decide +kernel)))
    · exact st_str hcur (hts _ (List.mem_of_getElem? (i := 514) (by decide +kernel)))
    · exact st_str hcur (hts _ (List.mem_of_getElem? (i := 537) (by decide +kernel)))
    · exact st_str hcur (hts _ (List.mem_of_getElem? (i := 556) (by decide +kernel)))
    · exact st_str hcur (hts _ (List.mem_of_getElem? (i := 568) (by decide +kernel)))
    · exact st_str hcur (hts _ (List.mem_of_getElem? (i := 576) (by decide +kernel)))
    · exact st_str hcur (hts _ (List.mem_of_getElem? (i := 578) (by decide +kernel)))
    · exact st_str hcur (hts _ (List.mem_of_getElem? (i := 606) (by decide +kernel)))
    · exact st_str hcur (hts _ (List.mem_of_getElem? (i := 608) (by decide +kernel)))
    · exact st_str hcur (hts _ (List.mem_of_getElem? (i := 618) (by decide +kernel)))
    · exact st_str hcur (hts _ (List.mem_of_getElem? (i := 628) (by decide +kernel)))
    · exact st_str hcur (hts _ (List.mem_of_getElem? (i := 636) (by decide +kernel)))
    · exact st_str hcur (hts _ (List.mem_of_getElem? (i := 648) (by decide +kernel)))
    · exact st_str hcur (hts _ (List.mem_of_getElem? (i := 656) (by decide +kernel)))
    · exact st_str hcur (hts _ (List.mem_of_getElem? (i := 701) (by decide +kernel)))
    · exact st_str hcur (hts _ (List.mem_of_getElem? (i := 706) (by decide +kernel)))
    · exact st_str hcur (hts _ (List.mem_of_getElem? (i := 723) (by decide +kernel)))
    · exact st_str hcur (hts _ (List.mem_of_getElem? (i := 669) (by decide +kernel)))
    · exact st_str hcur (hts _ (List.mem_of_getElem? (i := 678) (by decide +kernel)))
  · intro E hE
    simp only [hx_Es, List.mem_cons, List.not_mem_nil, or_false] at hE
    rcases hE with rfl | rfl | rfl
    · exact va_Nw.of rfl (hts _ (List.mem_of_getElem? (i := 200) (by decide +kernel)))
    · exact va_Nw.of rfl (hts _ (List.mem_of_getElem? (i := 272) (by decide +kernel)))
    · exact va_Nw.of rfl (hts _ (List.mem_of_getElem? (i := 530) (by decide +kernel)))
  · intro E hE F hF hn
    simp only [hx_Es, List.mem_cons, List.not_mem_nil, or_false] at hE hF
    rcases hE with rfl | rfl | rfl <;> rcases hF with rfl | rfl | rfl
    · exact absurd rfl hn
    · exact va_Nc.of (hs _ (by decide +kernel))
    · exact va_Nc.of (hs _ (by decide +kernel))
    · exact va_Nc.of (hs _ (by decide +kernel))
    · exact absurd rfl hn
    · exact va_Nc.of (hs _ (by decide +kernel))
    · exact va_Nc.of (hs _ (by decide +kernel))
    · exact va_Nc.of (hs _ (by decide +kernel))
    · exact absurd rfl hn
  · intro n hn
    simp only [hx_Ds, List.mem_cons, List.not_mem_nil, or_false] at hn
    rcases hn with rfl | rfl | rfl
    · exact va_Nw.of rfl (hts _ (List.mem_of_getElem? (i := 202) (by decide +kernel)))
    · exact va_Nw.of rfl (hts _ (List.mem_of_getElem? (i := 204) (by decide +kernel)))
    · exact va_Nw.of rfl (hts _ (List.mem_of_getElem? (i := 206) (by decide +kernel)))
  · intro A hA
    exact ⟨vx_Zqof (hts _ (List.mem_of_getElem? (i := 225) (by decide +kernel))) (hts _ (List.mem_of_getElem? (i := 20) (by decide +kernel))) (hs _ (by decide +kernel)) hA, vx_Zqof (hts _ (List.mem_of_getElem? (i := 227) (by decide +kernel))) (hts _ (List.mem_of_getElem? (i := 20) (by decide +kernel))) (hs _ (by decide +kernel)) hA⟩

theorem lc_end {p : Program} {l : Launch} {e : Env} {s : State} {m : MethodId} {below : List Frame} {meth : Method} {c : Code} {D : va_G} {dA : Nat → ClassId} {b9 ce sl : Nat} {ws : va_W} {a b : Nat → Nat} {t : Int} {k : Nat} (C : hv_C p s m #[Value.ref b9] c cL_law 8 D dA (fun q : Nat => s.heap.size ≤ q) s.heap RL (hw_W yL_thrown cL_thrown 1 (some .boolean))) (hr : meth.sig.returnType = ret) (hlocks : meth.locks = false) (hc : ce ≤ 600104) (hs : sl ≤ 7301314) : hv_V p l e room_1 s m #[Value.ref b9] below meth c 8 D (fun q : Nat => s.heap.size ≤ q) s.heap (lw_Z below #[Value.ref b9] s) ce sl ws [(5, .int (zI ((k : Int)))), (4, .int (zI (1))), (3, .int (zI (t))), (2, .ref (b 0)), (1, .ref (a 0)), (0, .ref b9)] [] 171 := by
  refine hv_iload C dL_law_171 1 rfl ?_
  refine hv_topi (y := 1) rfl ?_
  intro H locs la hP hD hS hl
  refine va_forget (fun q hq => hS.2.2 q hq) ?_
  refine W.widen (k := 600104) (n := 7301314) hc hs ?_
  exact lw_ret C.1.1 C.1.2.1 hr hlocks dL_law_173
theorem whole_start {p : Program} {e : Env} {s : State} {m : MethodId} {below : List Frame} {meth : Method} {c : Code} (l : Launch) (hflags : l.flags = flags0) {b L : Nat} {xs : Nat → Int32} (hL : L ≤ 260) (C0 : lw_At p s m meth c b L xs) : W p l e room_1 s m #[Value.ref b] below meth c s.heap [] 0 0 (lw_Z below #[Value.ref b] s) (entryFrame m ([Value.ref b] : List Value).toArray 8) := by
  obtain ⟨hx, hb, hr, hml, hown, hts, hX, hbl, hlocks, hgv⟩ := id C0
  obtain ⟨D, dA, sa, hK, hN, hX8, hZ⟩ := st_ok hts hgv
  have hst : l.stackTraces = false := by
    unfold Launch.stackTraces
    rw [hflags]
    decide +kernel
  have hT2 : ∀ w ∈ hw_W yL_thrown cL_thrown 1 (some .boolean), w.before #[Value.ref b] s = true := fun w hw => by
    rcases List.mem_cons.mp hw with e9 | e9
    · rw [e9]; exact hts _ (List.mem_filter.mp tw_k_L_thrown).1
    · exact hts _ (List.mem_filter.mp e9).1
  have C : hv_C p s m #[Value.ref b] c cL_law 8 D dA (fun q : Nat => s.heap.size ≤ q) s.heap RL (hw_W yL_thrown cL_thrown 1 (some .boolean)) := ⟨⟨hx, hb, hml, hown, hT2⟩, hK, fun q h => h, hN⟩
  have X : hy_X s (fun q : Nat => s.heap.size ≤ q) sa := ⟨hX8, hZ _ (fun a h => Nat.not_le.mpr h)⟩
  have hl := lv_entry ([.ref b]) (n := 8) (Nat.le_of_ble_eq_true rfl)
  rw [lg_entry_eq]
  have hgo : hv_V p l e room_1 s m #[Value.ref b] below meth c 8 D (fun q : Nat => s.heap.size ≤ q) s.heap (lw_Z below #[Value.ref b] s) 0 0 [] [(0, .ref b)] [] 0 := lc_go C X hst hX hbl (Nat.not_le.mpr hbl) hL (fun a b' t k v h h9 hk => lc_end C hr hlocks (by omega) (by omega))
  exact hgo s.heap [] _ (fun k q h => by simp at h) ⟨fun i j p q h => by simp at h, fun k q h => by simp at h⟩ va_S.rf hl

