/-! the law: what the tables and the start give -/
theorem st_ar {args : Array Value} {s : State} {ty : FieldType} (h : (Cond.arrayClass ty).before args s = true) (hno : ∀ C9, ty ≠ .object C9) : ∃ cA : ClassId, ArrOfT s cA ty ∧ va_RA s cA ty := by
  obtain ⟨cA, k, comp, h1, h2, h3⟩ := Cond.arrayClass_spec h
  refine ⟨cA, fun n z => ⟨fun k9 h9 => (by cases h9), k, h2, comp, h3⟩, ?_⟩
  cases ty with
  | object C9 => exact absurd rfl (hno C9)
  | _ => exact h1
theorem st_ao {args : Array Value} {s : State} {Cn : String} (h : (Cond.arrayOver (.object Cn)).before args s = true) : ∃ cA : ClassId, ArrOfT s cA (.object Cn) ∧ va_RA s cA (.object Cn) := by
  obtain ⟨comp, cA, k, h1, h2, h3, h4, h5⟩ := Cond.arrayOver_spec h
  exact ⟨cA, fun n z => ⟨fun k9 h9 => (by cases h9), k, h3, comp, h4⟩, k, comp, h3, h4, h1, h5⟩
noncomputable def st_sa (args : Array Value) (s : State) : Nat → Nat := fun k => Classical.epsilon (fun a : Nat => (Term.string RX8 k).eval args s none [] s = some (.ref a))
theorem st_str {args : Array Value} {s : State} {k : Nat} {tx : String} {cur : Nat} (hcur : s.vm.findClass RX8 = some cur) (h : (Cond.stringRef RX8 k tx).before args s = true) : vk_R RX8 k tx (st_sa args s k) s := by
  obtain ⟨-, -, -, a, -, -, -, -, -, hev⟩ := Cond.stringRef_spec hcur h
  exact vk_R.of h (Classical.epsilon_spec (p := fun a : Nat => (Term.string RX8 k).eval args s none [] s = some (.ref a)) ⟨a, hev⟩)
theorem lw_and31 (x : Int32) : 0 ≤ (x &&& zI 31).toInt ∧ (x &&& zI 31).toInt < 32 := by
  have h : (x &&& zI 31).toBitVec.toNat ≤ 31 := by
    show (x.toBitVec &&& (zI 31).toBitVec).toNat ≤ 31
    rw [BitVec.toNat_and, show (zI 31).toBitVec.toNat = 31 from by decide]
    exact Nat.and_le_right
  have e : (x &&& zI 31).toInt = (x &&& zI 31).toBitVec.toInt := rfl
  rw [e, BitVec.toInt_eq_toNat_of_lt (by omega)]
  omega
theorem pl_nil {n : Nat} {F : Nat → va_W} (h : ∀ i, F i = []) : pl_all n F = [] := by
  unfold pl_all
  exact List.flatMap_eq_nil_iff.mpr (fun x _ => h x)

set_option maxRecDepth 100000 in
theorem st_ok {args : Array Value} {s : State} (hts : ∀ w ∈ lw_tbl, w.before args s = true) (hgv : (Jvm.Cond.and given_1 narrow_1).before args s = true) : ∃ (D : va_G) (dA : Nat → ClassId) (sa : Nat → Nat), va_K D vwCl (hv_tys dA) s ∧ hv_N s ∧ hx_N sa s ∧ ∀ A : Nat → Prop, (∀ a, a < s.heap.size → ¬ A a) → hx_Z A s s.heap := by
  have hT : ∀ w ∈ hw_T, w.before args s = true := fun w hw => hts w (List.mem_filter.mp hw).1
  have hs := flat_of_before _ hgv
  obtain ⟨c0, i0, k0⟩ := u_known (C := RX1) (T := TX1) (N := 8) (n := 8) hT tw_u_1 (hT _ tw_z_RX1)
  obtain ⟨c1, i1, k1⟩ := u_known (C := RX2) (T := TX2) (N := 3) (n := 3) hT tw_u_2 (hT _ tw_z_RX2)
  obtain ⟨c2, i2, k2⟩ := u_known (C := RX4) (T := TX4) (N := 3) (n := 3) hT tw_u_4 (hT _ tw_z_RX4)
  obtain ⟨c3, i3, k3⟩ := u_known (C := RX5) (T := TX5) (N := 5) (n := 5) hT tw_u_5 (hT _ tw_z_RX5)
  obtain ⟨c4, i4, k4⟩ := u_known (C := RX6) (T := TX6) (N := 1) (n := 1) hT tw_u_6 (hT _ tw_z_RX6)
  obtain ⟨c5, i5, k5⟩ := u_known (C := RX7) (T := TX7) (N := 2) (n := 2) hT tw_u_7 (hT _ tw_z_RX7)
  obtain ⟨c6, i6, k6⟩ := u_known (C := RX8) (T := TX8) (N := 6) (n := 6) hT tw_u_8 (hT _ tw_z_RX8)
  obtain ⟨c7, i7, k7⟩ := u_known (C := RX9) (T := TX9) (N := 13) (n := 13) hT tw_u_9 (hT _ tw_z_RX9)
  obtain ⟨a0, r0⟩ := st_ar (hT _ tw_a_int) (fun _ h => by cases h)
  obtain ⟨a1, r1⟩ := st_ar (hT _ tw_a_byte) (fun _ h => by cases h)
  obtain ⟨a2, r2⟩ := st_ar (hT _ tw_a_char) (fun _ h => by cases h)
  obtain ⟨a3, r3⟩ := st_ar (hT _ tw_a_boolean) (fun _ h => by cases h)
  obtain ⟨a4, r4⟩ := st_ar (hT _ tw_a_long) (fun _ h => by cases h)
  obtain ⟨a5, r5⟩ := st_ao (Cn := RX1) (hts _ (List.mem_of_getElem? (i := 135) (by decide +kernel)))
  obtain ⟨a6, r6⟩ := st_ao (Cn := RX5) (hts _ (List.mem_of_getElem? (i := 169) (by decide +kernel)))
  refine ⟨(fun k => if k = 0 then c0 else if k = 1 then c1 else if k = 2 then c2 else if k = 3 then c3 else if k = 4 then c4 else if k = 5 then c5 else if k = 6 then c6 else c7, fun k => if k = 0 then i0 else if k = 1 then i1 else if k = 2 then i2 else if k = 3 then i3 else if k = 4 then i4 else if k = 5 then i5 else if k = 6 then i6 else i7), fun k => if k = 0 then a0 else if k = 1 then a1 else if k = 2 then a2 else if k = 3 then a3 else if k = 4 then a4 else if k = 5 then a5 else a6, st_sa args s, ⟨?_, ?_⟩, hw_nest hts, ⟨?_, ?_, ?_, ?_⟩, ?_⟩
  · intro k q hq
    match k, hq with
    | 0, hq => cases hq; exact k0
    | 1, hq => cases hq; exact k1
    | 2, hq => cases hq; exact k2
    | 3, hq => cases hq; exact k3
    | 4, hq => cases hq; exact k4
    | 5, hq => cases hq; exact k5
    | 6, hq => cases hq; exact k6
    | 7, hq => cases hq; exact k7
    | k + 8, hq => simp [vwCl] at hq
  · intro k q hq
    match k, hq with
    | 0, hq => cases hq; exact r0
    | 1, hq => cases hq; exact r1
    | 2, hq => cases hq; exact r2
    | 3, hq => cases hq; exact r3
    | 4, hq => cases hq; exact r4
    | 5, hq => cases hq; exact r5
    | 6, hq => cases hq; exact r6
    | k + 7, hq => simp [hv_tys] at hq
  · intro q hq
    obtain ⟨-, hcur, -⟩ := k6
    simp only [hx_S, List.mem_cons, List.not_mem_nil, or_false] at hq
    rcases hq with rfl | rfl | rfl | rfl | rfl | rfl | rfl | rfl | rfl | rfl | rfl | rfl | rfl | rfl | rfl | rfl | rfl | rfl | rfl | rfl | rfl
    · exact st_str hcur (hts _ (List.mem_of_getElem? (i := 426) (by decide +kernel)))
    · exact st_str hcur (hts _ (List.mem_of_getElem? (i := 465) (by decide +kernel)))
    · exact st_str hcur (hts _ (List.mem_of_getElem? (i := 479) (by decide +kernel)))
    · exact st_str hcur (hts _ (List.mem_of_getElem? (i := 578) (by decide +kernel)))
    · exact st_str hcur (hts _ (List.mem_of_getElem? (i := 601) (by decide +kernel)))
    · exact st_str hcur (hts _ (List.mem_of_getElem? (i := 619) (by decide +kernel)))
    · exact st_str hcur (hts _ (List.mem_of_getElem? (i := 630) (by decide +kernel)))
    · exact st_str hcur (hts _ (List.mem_of_getElem? (i := 638) (by decide +kernel)))
    · exact st_str hcur (hts _ (List.mem_of_getElem? (i := 640) (by decide +kernel)))
    · exact st_str hcur (hts _ (List.mem_of_getElem? (i := 654) (by decide +kernel)))
    · exact st_str hcur (hts _ (List.mem_of_getElem? (i := 656) (by decide +kernel)))
    · exact st_str hcur (hts _ (List.mem_of_getElem? (i := 665) (by decide +kernel)))
    · exact st_str hcur (hts _ (List.mem_of_getElem? (i := 674) (by decide +kernel)))
    · exact st_str hcur (hts _ (List.mem_of_getElem? (i := 682) (by decide +kernel)))
    · exact st_str hcur (hts _ (List.mem_of_getElem? (i := 694) (by decide +kernel)))
    · exact st_str hcur (hts _ (List.mem_of_getElem? (i := 712) (by decide +kernel)))
    · exact st_str hcur (hts _ (List.mem_of_getElem? (i := 725) (by decide +kernel)))
    · exact st_str hcur (hts _ (List.mem_of_getElem? (i := 730) (by decide +kernel)))
    · exact st_str hcur (hts _ (List.mem_of_getElem? (i := 743) (by decide +kernel)))
    · exact st_str hcur (hts _ (List.mem_of_getElem? (i := 762) (by decide +kernel)))
    · exact st_str hcur (hts _ (List.mem_of_getElem? (i := 770) (by decide +kernel)))
  · intro E hE
    simp only [hx_Es, List.mem_cons, List.not_mem_nil, or_false] at hE
    rcases hE with rfl | rfl | rfl
    · exact va_Nw.of rfl (hts _ (List.mem_of_getElem? (i := 387) (by decide +kernel)))
    · exact va_Nw.of rfl (hts _ (List.mem_of_getElem? (i := 458) (by decide +kernel)))
    · exact va_Nw.of rfl (hts _ (List.mem_of_getElem? (i := 594) (by decide +kernel)))
  · intro E hE F hF hn
    simp only [hx_Es, List.mem_cons, List.not_mem_nil, or_false] at hE hF
    rcases hE with rfl | rfl | rfl <;> rcases hF with rfl | rfl | rfl
    · exact absurd rfl hn
    · exact va_Nc.of (hs _ (by decide +kernel))
    · exact va_Nc.of (hs _ (by decide +kernel))
    · exact va_Nc.of (hs _ (by decide +kernel))
    · exact absurd rfl hn
    · exact va_Nc.of (hs _ (by decide +kernel))
    · exact va_Nc.of (hs _ (by decide +kernel))
    · exact va_Nc.of (hs _ (by decide +kernel))
    · exact absurd rfl hn
  · intro n hn
    simp only [hx_Ds, List.mem_cons, List.not_mem_nil, or_false] at hn
    rcases hn with rfl | rfl | rfl
    · exact va_Nw.of rfl (hts _ (List.mem_of_getElem? (i := 389) (by decide +kernel)))
    · exact va_Nw.of rfl (hts _ (List.mem_of_getElem? (i := 391) (by decide +kernel)))
    · exact va_Nw.of rfl (hts _ (List.mem_of_getElem? (i := 393) (by decide +kernel)))
  · intro A hA
    exact ⟨vx_Zqof (hts _ (List.mem_of_getElem? (i := 412) (by decide +kernel))) (hts _ (List.mem_of_getElem? (i := 35) (by decide +kernel))) (hs _ (by decide +kernel)) hA, vx_Zqof (hts _ (List.mem_of_getElem? (i := 414) (by decide +kernel))) (hts _ (List.mem_of_getElem? (i := 35) (by decide +kernel))) (hs _ (by decide +kernel)) hA⟩

set_option maxHeartbeats 2000000 in
set_option maxRecDepth 100000 in
theorem lc_step {p : Program} {l : Launch} {e : Env} {s : State} {m : MethodId} {args : Array Value} {below : List Frame} {meth : Method} {c : Code} {Q : State → Prop} {D : va_G} {dA : Nat → ClassId} {A : Nat → Prop} {sa : Nat → Nat} {b9 L : Nat} {xs : Nat → Int32} (C : hv_C p s m args c cL_law 7 D dA A s.heap RL (hw_W yX9_thrown cX9_thrown 1 (some .int))) (X : hy_X s A sa) (hst : l.stackTraces = false) (hX : va_X b9 L xs s s.heap) (hbl : b9 < s.heap.size) (hbA : ¬ A b9) (i : Nat) (hL : L ≤ 2560) (hi : 5 * i + 5 ≤ L) (xx g0 g1 g2 c0 c1 c2 mm rr sl tt ss oo ma m9 xt nw tr di ke ik wt o9 : Nat) (n : Nat) (tx : Nat → Int) (g : Nat → Int) (gc : Nat → Int) (sz : Nat) (nx : Nat) (al : Nat → Bool) (ga : Nat → Nat × Nat × Nat) (ct : Nat → Nat → Int) (sal : Nat → Bool) (sga : Nat → Nat × Nat × Nat) (sct : Nat → Nat → Int) (oal : Nat → Bool) (oa : Nat → Nat × Nat × Nat) (kf : Nat → Nat → Int32) (rf : Int) (t : Nat → Int) (d : Nat → Int) (kp : Nat → Int) (ld : Int) (wv : Nat → Int) (sp : Int) (ou : Int) (f : Nat → Int64) (hI : lw_I n tx g sz nx al ct d sal sct kp oal kf ld wv) (K : ∀ (n : Nat) (tx : Nat → Int) (g : Nat → Int) (gc : Nat → Int) (sz : Nat) (nx : Nat) (al : Nat → Bool) (ga : Nat → Nat × Nat × Nat) (ct : Nat → Nat → Int) (sal : Nat → Bool) (sga : Nat → Nat × Nat × Nat) (sct : Nat → Nat → Int) (oal : Nat → Bool) (oa : Nat → Nat × Nat × Nat) (kf : Nat → Nat → Int32) (rf : Int) (t : Nat → Int) (d : Nat → Int) (kp : Nat → Int) (ld : Int) (wv : Nat → Int) (sp : Int) (ou : Int) (f : Nat → Int64), lw_I n tx g sz nx al ct d sal sct kp oal kf ld wv → hv_V p l e room_1 s m args below meth c 7 D A s.heap Q (9 * i + 39) (12438 * i + 17138) (lw_w dA xx g0 g1 g2 c0 c1 c2 mm rr sl tt ss oo ma m9 xt nw tr di ke ik wt o9 n tx g gc sz nx al ga ct sal sga sct oal oa kf rf t d kp ld wv sp ou f) [(4, .int (zI (((5 * i : Nat) : Int)))), (0, .ref b9), (1, .ref xx), (2, .ref m9), (3, .ref o9)] [] 1440) : hv_V p l e room_1 s m args below meth c 7 D A s.heap Q (9 * i + 30) (12438 * i + 4700) (lw_w dA xx g0 g1 g2 c0 c1 c2 mm rr sl tt ss oo ma m9 xt nw tr di ke ik wt o9 n tx g gc sz nx al ga ct sal sga sct oal oa kf rf t d kp ld wv sp ou f) [(4, .int (zI (((5 * i : Nat) : Int)))), (0, .ref b9), (1, .ref xx), (2, .ref m9), (3, .ref o9)] [] 32 := by
  refine hv_aload_n C dL_law_32 1 rfl ?_
  refine hv_iload C dL_law_33 0 rfl ?_
  refine hy_sld C hX hbl hbA dL_law_35 (5 * i) (zI_nat _) (by omega) (by omega) ?_
  refine hv_bipush C dL_law_36 (v := zI 31) (by decide +kernel) ?_
  refine hv_iand C dL_law_38 rfl ?_
  obtain ⟨r, er, hr32⟩ : ∃ r : Int, xs (5 * i) &&& zI 31 = zI r ∧ 0 ≤ r ∧ r < 32 := ⟨_, zI_of _, lw_and31 _⟩
  refine hv_topi er ?_
  rcases (show r = 0 ∨ r = 1 ∨ r = 2 ∨ r = 3 ∨ r = 4 ∨ r = 5 ∨ r = 6 ∨ r = 7 ∨ r = 8 ∨ r = 9 ∨ r = 10 ∨ r = 11 ∨ r = 12 ∨ r = 13 ∨ r = 14 ∨ r = 15 ∨ r = 16 ∨ r = 17 ∨ r = 18 ∨ r = 19 ∨ r = 20 ∨ r = 21 ∨ r = 22 ∨ r = 23 ∨ r = 24 ∨ r = 25 ∨ 26 ≤ r by omega) with hq | hq | hq | hq | hq | hq | hq | hq | hq | hq | hq | hq | hq | hq | hq | hq | hq | hq | hq | hq | hq | hq | hq | hq | hq | hq | hq
  · refine hv_topi (y := zI (0)) (by rw [hq]) ?_
    refine hv_tabIn C dL_law_39 (by decide) (by decide) rfl (tgt := 156) (by decide) ?_
    exact lc_append C X hst hX hbl hbA i hL hi xx g0 g1 g2 c0 c1 c2 mm rr sl tt ss oo ma m9 xt nw tr di ke ik wt o9 n tx g gc sz nx al ga ct sal sga sct oal oa kf rf t d kp ld wv sp ou f hI _ rfl (zI_ran (xs (5 * i + 1))) _ rfl (zI_ran (xs (5 * i + 2))) _ rfl (zI_ran (xs (5 * i + 3))) _ rfl (zI_ran (xs (5 * i + 4))) K
  · refine hv_topi (y := zI (1)) (by rw [hq]) ?_
    refine hv_tabIn C dL_law_39 (by decide) (by decide) rfl (tgt := 212) (by decide) ?_
    exact lc_clearText C X hst hX hbl hbA i hL hi xx g0 g1 g2 c0 c1 c2 mm rr sl tt ss oo ma m9 xt nw tr di ke ik wt o9 n tx g gc sz nx al ga ct sal sga sct oal oa kf rf t d kp ld wv sp ou f hI _ rfl (zI_ran (xs (5 * i + 1))) _ rfl (zI_ran (xs (5 * i + 2))) _ rfl (zI_ran (xs (5 * i + 3))) _ rfl (zI_ran (xs (5 * i + 4))) K
  · refine hv_topi (y := zI (2)) (by rw [hq]) ?_
    refine hv_tabIn C dL_law_39 (by decide) (by decide) rfl (tgt := 225) (by decide) ?_
    exact lc_errorPosition C X hst hX hbl hbA i hL hi xx g0 g1 g2 c0 c1 c2 mm rr sl tt ss oo ma m9 xt nw tr di ke ik wt o9 n tx g gc sz nx al ga ct sal sga sct oal oa kf rf t d kp ld wv sp ou f hI _ rfl (zI_ran (xs (5 * i + 1))) _ rfl (zI_ran (xs (5 * i + 2))) _ rfl (zI_ran (xs (5 * i + 3))) _ rfl (zI_ran (xs (5 * i + 4))) K
  · refine hv_topi (y := zI (3)) (by rw [hq]) ?_
    refine hv_tabIn C dL_law_39 (by decide) (by decide) rfl (tgt := 238) (by decide) ?_
    exact lc_load C X hst hX hbl hbA i hL hi xx g0 g1 g2 c0 c1 c2 mm rr sl tt ss oo ma m9 xt nw tr di ke ik wt o9 n tx g gc sz nx al ga ct sal sga sct oal oa kf rf t d kp ld wv sp ou f hI _ rfl (zI_ran (xs (5 * i + 1))) _ rfl (zI_ran (xs (5 * i + 2))) _ rfl (zI_ran (xs (5 * i + 3))) _ rfl (zI_ran (xs (5 * i + 4))) K
  · refine hv_topi (y := zI (4)) (by rw [hq]) ?_
    refine hv_tabIn C dL_law_39 (by decide) (by decide) rfl (tgt := 282) (by decide) ?_
    exact lc_about C X hst hX hbl hbA i hL hi xx g0 g1 g2 c0 c1 c2 mm rr sl tt ss oo ma m9 xt nw tr di ke ik wt o9 n tx g gc sz nx al ga ct sal sga sct oal oa kf rf t d kp ld wv sp ou f hI _ rfl (zI_ran (xs (5 * i + 1))) _ rfl (zI_ran (xs (5 * i + 2))) _ rfl (zI_ran (xs (5 * i + 3))) _ rfl (zI_ran (xs (5 * i + 4))) K
  · refine hv_topi (y := zI (5)) (by rw [hq]) ?_
    refine hv_tabIn C dL_law_39 (by decide) (by decide) rfl (tgt := 338) (by decide) ?_
    exact lc_leaves C X hst hX hbl hbA i hL hi xx g0 g1 g2 c0 c1 c2 mm rr sl tt ss oo ma m9 xt nw tr di ke ik wt o9 n tx g gc sz nx al ga ct sal sga sct oal oa kf rf t d kp ld wv sp ou f hI _ rfl (zI_ran (xs (5 * i + 1))) _ rfl (zI_ran (xs (5 * i + 2))) _ rfl (zI_ran (xs (5 * i + 3))) _ rfl (zI_ran (xs (5 * i + 4))) K
  · refine hv_topi (y := zI (6)) (by rw [hq]) ?_
    refine hv_tabIn C dL_law_39 (by decide) (by decide) rfl (tgt := 394) (by decide) ?_
    exact lc_gardener C X hst hX hbl hbA i hL hi xx g0 g1 g2 c0 c1 c2 mm rr sl tt ss oo ma m9 xt nw tr di ke ik wt o9 n tx g gc sz nx al ga ct sal sga sct oal oa kf rf t d kp ld wv sp ou f hI _ rfl (zI_ran (xs (5 * i + 1))) _ rfl (zI_ran (xs (5 * i + 2))) _ rfl (zI_ran (xs (5 * i + 3))) _ rfl (zI_ran (xs (5 * i + 4))) K
  · refine hv_topi (y := zI (7)) (by rw [hq]) ?_
    refine hv_tabIn C dL_law_39 (by decide) (by decide) rfl (tgt := 462) (by decide) ?_
    exact lc_setting C X hst hX hbl hbA i hL hi xx g0 g1 g2 c0 c1 c2 mm rr sl tt ss oo ma m9 xt nw tr di ke ik wt o9 n tx g gc sz nx al ga ct sal sga sct oal oa kf rf t d kp ld wv sp ou f hI _ rfl (zI_ran (xs (5 * i + 1))) _ rfl (zI_ran (xs (5 * i + 2))) _ rfl (zI_ran (xs (5 * i + 3))) _ rfl (zI_ran (xs (5 * i + 4))) K
  · refine hv_topi (y := zI (8)) (by rw [hq]) ?_
    refine hv_tabIn C dL_law_39 (by decide) (by decide) rfl (tgt := 518) (by decide) ?_
    exact lc_plant C X hst hX hbl hbA i hL hi xx g0 g1 g2 c0 c1 c2 mm rr sl tt ss oo ma m9 xt nw tr di ke ik wt o9 n tx g gc sz nx al ga ct sal sga sct oal oa kf rf t d kp ld wv sp ou f hI _ rfl (zI_ran (xs (5 * i + 1))) _ rfl (zI_ran (xs (5 * i + 2))) _ rfl (zI_ran (xs (5 * i + 3))) _ rfl (zI_ran (xs (5 * i + 4))) K
  · refine hv_topi (y := zI (9)) (by rw [hq]) ?_
    refine hv_tabIn C dL_law_39 (by decide) (by decide) rfl (tgt := 586) (by decide) ?_
    exact lc_clip C X hst hX hbl hbA i hL hi xx g0 g1 g2 c0 c1 c2 mm rr sl tt ss oo ma m9 xt nw tr di ke ik wt o9 n tx g gc sz nx al ga ct sal sga sct oal oa kf rf t d kp ld wv sp ou f hI _ rfl (zI_ran (xs (5 * i + 1))) _ rfl (zI_ran (xs (5 * i + 2))) _ rfl (zI_ran (xs (5 * i + 3))) _ rfl (zI_ran (xs (5 * i + 4))) K
  · refine hv_topi (y := zI (10)) (by rw [hq]) ?_
    refine hv_tabIn C dL_law_39 (by decide) (by decide) rfl (tgt := 666) (by decide) ?_
    exact lc_water C X hst hX hbl hbA i hL hi xx g0 g1 g2 c0 c1 c2 mm rr sl tt ss oo ma m9 xt nw tr di ke ik wt o9 n tx g gc sz nx al ga ct sal sga sct oal oa kf rf t d kp ld wv sp ou f hI _ rfl (zI_ran (xs (5 * i + 1))) _ rfl (zI_ran (xs (5 * i + 2))) _ rfl (zI_ran (xs (5 * i + 3))) _ rfl (zI_ran (xs (5 * i + 4))) K
  · refine hv_topi (y := zI (11)) (by rw [hq]) ?_
    refine hv_tabIn C dL_law_39 (by decide) (by decide) rfl (tgt := 722) (by decide) ?_
    exact lc_wind C X hst hX hbl hbA i hL hi xx g0 g1 g2 c0 c1 c2 mm rr sl tt ss oo ma m9 xt nw tr di ke ik wt o9 n tx g gc sz nx al ga ct sal sga sct oal oa kf rf t d kp ld wv sp ou f hI _ rfl (zI_ran (xs (5 * i + 1))) _ rfl (zI_ran (xs (5 * i + 2))) _ rfl (zI_ran (xs (5 * i + 3))) _ rfl (zI_ran (xs (5 * i + 4))) K
  · refine hv_topi (y := zI (12)) (by rw [hq]) ?_
    refine hv_tabIn C dL_law_39 (by decide) (by decide) rfl (tgt := 778) (by decide) ?_
    exact lc_pass C X hst hX hbl hbA i hL hi xx g0 g1 g2 c0 c1 c2 mm rr sl tt ss oo ma m9 xt nw tr di ke ik wt o9 n tx g gc sz nx al ga ct sal sga sct oal oa kf rf t d kp ld wv sp ou f hI _ rfl (zI_ran (xs (5 * i + 1))) _ rfl (zI_ran (xs (5 * i + 2))) _ rfl (zI_ran (xs (5 * i + 3))) _ rfl (zI_ran (xs (5 * i + 4))) K
  · refine hv_topi (y := zI (13)) (by rw [hq]) ?_
    refine hv_tabIn C dL_law_39 (by decide) (by decide) rfl (tgt := 791) (by decide) ?_
    exact lc_set C X hst hX hbl hbA i hL hi xx g0 g1 g2 c0 c1 c2 mm rr sl tt ss oo ma m9 xt nw tr di ke ik wt o9 n tx g gc sz nx al ga ct sal sga sct oal oa kf rf t d kp ld wv sp ou f hI _ rfl (zI_ran (xs (5 * i + 1))) _ rfl (zI_ran (xs (5 * i + 2))) _ rfl (zI_ran (xs (5 * i + 3))) _ rfl (zI_ran (xs (5 * i + 4))) K
  · refine hv_topi (y := zI (14)) (by rw [hq]) ?_
    refine hv_tabIn C dL_law_39 (by decide) (by decide) rfl (tgt := 859) (by decide) ?_
    rcases Nat.eq_zero_or_pos sz with h0 | h0
    · exact lc_undo_f C X hst hX hbl hbA i hL hi xx g0 g1 g2 c0 c1 c2 mm rr sl tt ss oo ma m9 xt nw tr di ke ik wt o9 n tx g gc sz nx al ga ct sal sga sct oal oa kf rf t d kp ld wv sp ou f hI _ rfl (zI_ran (xs (5 * i + 1))) _ rfl (zI_ran (xs (5 * i + 2))) _ rfl (zI_ran (xs (5 * i + 3))) _ rfl (zI_ran (xs (5 * i + 4))) h0 K
    · exact lc_undo_t C X hst hX hbl hbA i hL hi xx g0 g1 g2 c0 c1 c2 mm rr sl tt ss oo ma m9 xt nw tr di ke ik wt o9 n tx g gc sz nx al ga ct sal sga sct oal oa kf rf t d kp ld wv sp ou f hI _ rfl (zI_ran (xs (5 * i + 1))) _ rfl (zI_ran (xs (5 * i + 2))) _ rfl (zI_ran (xs (5 * i + 3))) _ rfl (zI_ran (xs (5 * i + 4))) h0 K
  · refine hv_topi (y := zI (15)) (by rw [hq]) ?_
    refine hv_tabIn C dL_law_39 (by decide) (by decide) rfl (tgt := 903) (by decide) ?_
    exact lc_ifClipped C X hst hX hbl hbA i hL hi xx g0 g1 g2 c0 c1 c2 mm rr sl tt ss oo ma m9 xt nw tr di ke ik wt o9 n tx g gc sz nx al ga ct sal sga sct oal oa kf rf t d kp ld wv sp ou f hI _ rfl (zI_ran (xs (5 * i + 1))) _ rfl (zI_ran (xs (5 * i + 2))) _ rfl (zI_ran (xs (5 * i + 3))) _ rfl (zI_ran (xs (5 * i + 4))) K
  · refine hv_topi (y := zI (16)) (by rw [hq]) ?_
    refine hv_tabIn C dL_law_39 (by decide) (by decide) rfl (tgt := 995) (by decide) ?_
    exact lc_worth C X hst hX hbl hbA i hL hi xx g0 g1 g2 c0 c1 c2 mm rr sl tt ss oo ma m9 xt nw tr di ke ik wt o9 n tx g gc sz nx al ga ct sal sga sct oal oa kf rf t d kp ld wv sp ou f hI _ rfl (zI_ran (xs (5 * i + 1))) _ rfl (zI_ran (xs (5 * i + 2))) _ rfl (zI_ran (xs (5 * i + 3))) _ rfl (zI_ran (xs (5 * i + 4))) K
  · refine hv_topi (y := zI (17)) (by rw [hq]) ?_
    refine hv_tabIn C dL_law_39 (by decide) (by decide) rfl (tgt := 1008) (by decide) ?_
    exact lc_bestClip C X hst hX hbl hbA i hL hi xx g0 g1 g2 c0 c1 c2 mm rr sl tt ss oo ma m9 xt nw tr di ke ik wt o9 n tx g gc sz nx al ga ct sal sga sct oal oa kf rf t d kp ld wv sp ou f hI _ rfl (zI_ran (xs (5 * i + 1))) _ rfl (zI_ran (xs (5 * i + 2))) _ rfl (zI_ran (xs (5 * i + 3))) _ rfl (zI_ran (xs (5 * i + 4))) K
  · refine hv_topi (y := zI (18)) (by rw [hq]) ?_
    refine hv_tabIn C dL_law_39 (by decide) (by decide) rfl (tgt := 1021) (by decide) ?_
    exact lc_bestClips C X hst hX hbl hbA i hL hi xx g0 g1 g2 c0 c1 c2 mm rr sl tt ss oo ma m9 xt nw tr di ke ik wt o9 n tx g gc sz nx al ga ct sal sga sct oal oa kf rf t d kp ld wv sp ou f hI _ rfl (zI_ran (xs (5 * i + 1))) _ rfl (zI_ran (xs (5 * i + 2))) _ rfl (zI_ran (xs (5 * i + 3))) _ rfl (zI_ran (xs (5 * i + 4))) K
  · refine hv_topi (y := zI (19)) (by rw [hq]) ?_
    refine hv_tabIn C dL_law_39 (by decide) (by decide) rfl (tgt := 1034) (by decide) ?_
    exact lc_goesOn C X hst hX hbl hbA i hL hi xx g0 g1 g2 c0 c1 c2 mm rr sl tt ss oo ma m9 xt nw tr di ke ik wt o9 n tx g gc sz nx al ga ct sal sga sct oal oa kf rf t d kp ld wv sp ou f hI _ rfl (zI_ran (xs (5 * i + 1))) _ rfl (zI_ran (xs (5 * i + 2))) _ rfl (zI_ran (xs (5 * i + 3))) _ rfl (zI_ran (xs (5 * i + 4))) K
  · refine hv_topi (y := zI (20)) (by rw [hq]) ?_
    refine hv_tabIn C dL_law_39 (by decide) (by decide) rfl (tgt := 1102) (by decide) ?_
    exact lc_bestWater C X hst hX hbl hbA i hL hi xx g0 g1 g2 c0 c1 c2 mm rr sl tt ss oo ma m9 xt nw tr di ke ik wt o9 n tx g gc sz nx al ga ct sal sga sct oal oa kf rf t d kp ld wv sp ou f hI _ rfl (zI_ran (xs (5 * i + 1))) _ rfl (zI_ran (xs (5 * i + 2))) _ rfl (zI_ran (xs (5 * i + 3))) _ rfl (zI_ran (xs (5 * i + 4))) K
  · refine hv_topi (y := zI (21)) (by rw [hq]) ?_
    refine hv_tabIn C dL_law_39 (by decide) (by decide) rfl (tgt := 1115) (by decide) ?_
    exact lc_winner C X hst hX hbl hbA i hL hi xx g0 g1 g2 c0 c1 c2 mm rr sl tt ss oo ma m9 xt nw tr di ke ik wt o9 n tx g gc sz nx al ga ct sal sga sct oal oa kf rf t d kp ld wv sp ou f hI _ rfl (zI_ran (xs (5 * i + 1))) _ rfl (zI_ran (xs (5 * i + 2))) _ rfl (zI_ran (xs (5 * i + 3))) _ rfl (zI_ran (xs (5 * i + 4))) K
  · refine hv_topi (y := zI (22)) (by rw [hq]) ?_
    refine hv_tabIn C dL_law_39 (by decide) (by decide) rfl (tgt := 1128) (by decide) ?_
    exact lc_runScript C X hst hX hbl hbA i hL hi xx g0 g1 g2 c0 c1 c2 mm rr sl tt ss oo ma m9 xt nw tr di ke ik wt o9 n tx g gc sz nx al ga ct sal sga sct oal oa kf rf t d kp ld wv sp ou f hI _ rfl (zI_ran (xs (5 * i + 1))) _ rfl (zI_ran (xs (5 * i + 2))) _ rfl (zI_ran (xs (5 * i + 3))) _ rfl (zI_ran (xs (5 * i + 4))) _ rfl K
  · refine hv_topi (y := zI (23)) (by rw [hq]) ?_
    refine hv_tabIn C dL_law_39 (by decide) (by decide) rfl (tgt := 1228) (by decide) ?_
    exact lc_simulate C X hst hX hbl hbA i hL hi xx g0 g1 g2 c0 c1 c2 mm rr sl tt ss oo ma m9 xt nw tr di ke ik wt o9 n tx g gc sz nx al ga ct sal sga sct oal oa kf rf t d kp ld wv sp ou f hI _ rfl (zI_ran (xs (5 * i + 1))) _ rfl (zI_ran (xs (5 * i + 2))) _ rfl (zI_ran (xs (5 * i + 3))) _ rfl (zI_ran (xs (5 * i + 4))) _ rfl K
  · refine hv_topi (y := zI (24)) (by rw [hq]) ?_
    refine hv_tabIn C dL_law_39 (by decide) (by decide) rfl (tgt := 1328) (by decide) ?_
    exact lc_save C X hst hX hbl hbA i hL hi xx g0 g1 g2 c0 c1 c2 mm rr sl tt ss oo ma m9 xt nw tr di ke ik wt o9 n tx g gc sz nx al ga ct sal sga sct oal oa kf rf t d kp ld wv sp ou f hI _ rfl (zI_ran (xs (5 * i + 1))) _ rfl (zI_ran (xs (5 * i + 2))) _ rfl (zI_ran (xs (5 * i + 3))) _ rfl (zI_ran (xs (5 * i + 4))) K
  · refine hv_topi (y := zI (25)) (by rw [hq]) ?_
    refine hv_tabIn C dL_law_39 (by decide) (by decide) rfl (tgt := 1384) (by decide) ?_
    exact lc_restore C X hst hX hbl hbA i hL hi xx g0 g1 g2 c0 c1 c2 mm rr sl tt ss oo ma m9 xt nw tr di ke ik wt o9 n tx g gc sz nx al ga ct sal sga sct oal oa kf rf t d kp ld wv sp ou f hI _ rfl (zI_ran (xs (5 * i + 1))) _ rfl (zI_ran (xs (5 * i + 2))) _ rfl (zI_ran (xs (5 * i + 3))) _ rfl (zI_ran (xs (5 * i + 4))) K
  · refine hv_tabOut C dL_law_39 (by rw [zI_toInt (by omega)]; omega) (tgt := 1440) (by decide) ?_
    refine hv_widen (ce' := 9 * i + 39) (sl' := 12438 * i + 17138) (by omega) (by omega) ?_
    exact K n tx g gc sz nx al ga ct sal sga sct oal oa kf rf t d kp ld wv sp ou f hI

set_option maxHeartbeats 2000000 in
set_option maxRecDepth 100000 in
theorem lc_all {p : Program} {l : Launch} {e : Env} {s : State} {m : MethodId} {args : Array Value} {below : List Frame} {meth : Method} {c : Code} {Q : State → Prop} {D : va_G} {dA : Nat → ClassId} {A : Nat → Prop} {sa : Nat → Nat} {b9 L : Nat} {xs : Nat → Int32} (C : hv_C p s m args c cL_law 7 D dA A s.heap RL (hw_W yX9_thrown cX9_thrown 1 (some .int))) (X : hy_X s A sa) (hst : l.stackTraces = false) (hX : va_X b9 L xs s s.heap) (hbl : b9 < s.heap.size) (hbA : ¬ A b9) (hL : L ≤ 2560) (xx g0 g1 g2 c0 c1 c2 mm rr sl tt ss oo ma m9 xt nw tr di ke ik wt o9 : Nat) (KE : ∀ (i : Nat) (n : Nat) (tx : Nat → Int) (g : Nat → Int) (gc : Nat → Int) (sz : Nat) (nx : Nat) (al : Nat → Bool) (ga : Nat → Nat × Nat × Nat) (ct : Nat → Nat → Int) (sal : Nat → Bool) (sga : Nat → Nat × Nat × Nat) (sct : Nat → Nat → Int) (oal : Nat → Bool) (oa : Nat → Nat × Nat × Nat) (kf : Nat → Nat → Int32) (rf : Int) (t : Nat → Int) (d : Nat → Int) (kp : Nat → Int) (ld : Int) (wv : Nat → Int) (sp : Int) (ou : Int) (f : Nat → Int64), 5 * i ≤ L → hv_V p l e room_1 s m args below meth c 7 D A s.heap Q (9 * i + 30) (12438 * i + 4700) (lw_w dA xx g0 g1 g2 c0 c1 c2 mm rr sl tt ss oo ma m9 xt nw tr di ke ik wt o9 n tx g gc sz nx al ga ct sal sga sct oal oa kf rf t d kp ld wv sp ou f) [(4, .int (zI (((5 * i : Nat) : Int)))), (0, .ref b9), (1, .ref xx), (2, .ref m9), (3, .ref o9)] [] 1446) : ∀ (n9 i : Nat) (n : Nat) (tx : Nat → Int) (g : Nat → Int) (gc : Nat → Int) (sz : Nat) (nx : Nat) (al : Nat → Bool) (ga : Nat → Nat × Nat × Nat) (ct : Nat → Nat → Int) (sal : Nat → Bool) (sga : Nat → Nat × Nat × Nat) (sct : Nat → Nat → Int) (oal : Nat → Bool) (oa : Nat → Nat × Nat × Nat) (kf : Nat → Nat → Int32) (rf : Int) (t : Nat → Int) (d : Nat → Int) (kp : Nat → Int) (ld : Int) (wv : Nat → Int) (sp : Int) (ou : Int) (f : Nat → Int64), i + n9 = 513 → 5 * i ≤ L → lw_I n tx g sz nx al ct d sal sct kp oal kf ld wv → hv_V p l e room_1 s m args below meth c 7 D A s.heap Q (9 * i + 30) (12438 * i + 4700) (lw_w dA xx g0 g1 g2 c0 c1 c2 mm rr sl tt ss oo ma m9 xt nw tr di ke ik wt o9 n tx g gc sz nx al ga ct sal sga sct oal oa kf rf t d kp ld wv sp ou f) [(4, .int (zI (((5 * i : Nat) : Int)))), (0, .ref b9), (1, .ref xx), (2, .ref m9), (3, .ref o9)] [] 23 := by
  intro n9
  induction n9 with
  | zero => intro i n tx g gc sz nx al ga ct sal sga sct oal oa kf rf t d kp ld wv sp ou f h1 h2 hI; exact absurd h1 (by omega)
  | succ n9 ih =>
    intro i n tx g gc sz nx al ga ct sal sga sct oal oa kf rf t d kp ld wv sp ou f h1 h2 hI
    refine hv_iload C dL_law_23 0 rfl ?_
    refine hv_aload_n C dL_law_25 1 rfl ?_
    refine hy_slen C hX hbl hbA dL_law_26 ?_
    refine hv_topi (y := zI ((L : Nat) : Int)) (zI_nat _).symm ?_
    refine hv_iconst C dL_law_27 (v := zI 5) rfl ?_
    refine hv_isub C dL_law_28 (zI_sub _ _) ?_
    refine hv_icmp_gt C dL_law_29 (tgt := 1446) (by decide) (zI_lt (by omega)) (fun hc => ?_) (fun hc => ?_)
    · exact KE i n tx g gc sz nx al ga ct sal sga sct oal oa kf rf t d kp ld wv sp ou f h2
    · refine lc_step C X hst hX hbl hbA i hL (by omega) xx g0 g1 g2 c0 c1 c2 mm rr sl tt ss oo ma m9 xt nw tr di ke ik wt o9 n tx g gc sz nx al ga ct sal sga sct oal oa kf rf t d kp ld wv sp ou f hI ?_
      intro nq txq gq gcq szq nxq alq gaq ctq salq sgaq sctq oalq oaq kfq rfq tq dq kpq ldq wvq spq ouq fq hIq
      refine hv_iinc C dL_law_1440 0 rfl (v := zI (((5 * (i + 1) : Nat)) : Int)) ((zI_add _ _).trans (zI_c (by omega))) (by decide) (lw := [(4, .int (zI (((5 * (i + 1) : Nat) : Int)))), (0, .ref b9), (1, .ref xx), (2, .ref m9), (3, .ref o9)]) rfl ?_
      refine hv_goto C dL_law_1443 (tgt := 23) (by decide) ?_
      refine hv_widen (ce' := 9 * (i + 1) + 30) (sl' := 12438 * (i + 1) + 4700) (by omega) (by omega) ?_
      exact ih (i + 1) nq txq gq gcq szq nxq alq gaq ctq salq sgaq sctq oalq oaq kfq rfq tq dq kpq ldq wvq spq ouq fq (by omega) (by omega) hIq

set_option maxHeartbeats 4000000 in
set_option maxRecDepth 100000 in
theorem lc_go {p : Program} {l : Launch} {e : Env} {s : State} {m : MethodId} {args : Array Value} {below : List Frame} {meth : Method} {c : Code} {Q : State → Prop} {D : va_G} {dA : Nat → ClassId} {A : Nat → Prop} {sa : Nat → Nat} {b9 L : Nat} {xs : Nat → Int32} (C : hv_C p s m args c cL_law 7 D dA A s.heap RL (hw_W yX9_thrown cX9_thrown 1 (some .int))) (X : hy_X s A sa) (hst : l.stackTraces = false) (hX : va_X b9 L xs s s.heap) (hbl : b9 < s.heap.size) (hbA : ¬ A b9) (hL : L ≤ 2560) (KE : ∀ (i xx g0 g1 g2 c0 c1 c2 mm rr sl tt ss oo ma m9 xt nw tr di ke ik wt o9 : Nat) (n : Nat) (tx : Nat → Int) (g : Nat → Int) (gc : Nat → Int) (sz : Nat) (nx : Nat) (al : Nat → Bool) (ga : Nat → Nat × Nat × Nat) (ct : Nat → Nat → Int) (sal : Nat → Bool) (sga : Nat → Nat × Nat × Nat) (sct : Nat → Nat → Int) (oal : Nat → Bool) (oa : Nat → Nat × Nat × Nat) (kf : Nat → Nat → Int32) (rf : Int) (t : Nat → Int) (d : Nat → Int) (kp : Nat → Int) (ld : Int) (wv : Nat → Int) (sp : Int) (ou : Int) (f : Nat → Int64), 5 * i ≤ L → hv_V p l e room_1 s m args below meth c 7 D A s.heap Q (9 * i + 30) (12438 * i + 4700) (lw_w dA xx g0 g1 g2 c0 c1 c2 mm rr sl tt ss oo ma m9 xt nw tr di ke ik wt o9 n tx g gc sz nx al ga ct sal sga sct oal oa kf rf t d kp ld wv sp ou f) [(4, .int (zI (((5 * i : Nat) : Int)))), (0, .ref b9), (1, .ref xx), (2, .ref m9), (3, .ref o9)] [] 1446) : hv_V p l e room_1 s m args below meth c 7 D A s.heap Q 0 0 [] [(0, .ref b9)] [] 0 := by
  refine hv_new C (ci := 6) (fs := [.null, .null, .null, .null, .null, .null]) dL_law_0 (fun w h => hw_c (tw_u_8 w h)) tyX8 tyX8_ok (hw_c tw_c_RL_8) (hw_c tw_z_RX8) (hw_c tw_n_RX8) rfl (fun j hj => by rcases (show j = 0 ∨ j = 1 ∨ j = 2 ∨ j = 3 ∨ j = 4 ∨ j = 5 by omega) with rfl | rfl | rfl | rfl | rfl | rfl <;> rfl) (Nat.le_of_ble_eq_true rfl) (Nat.le_of_ble_eq_true rfl) (fun xx => ?_)
  refine hv_weq (ws' := [(xx, .inr (6, [.null, .null, .null, .null, .null, .null]))]) rfl ?_
  refine hv_dup C dL_law_3 rfl ?_
  refine hv_callI (As := []) (rest := [.ref xx]) (wc := [(xx, .inr (6, [.null, .null, .null, .null, .null, .null]))]) (wr := []) C (k_X8_init l D dA xx) (cwI 0 C.1.2.2.2.2 (hw_good tw_k_X8_init) rfl rfl rfl (C.1.2.2.2.2 _ (hw_c tw_n_RX8)) (C.1.2.2.2.2 _ (hw_c tw_m_RL_76)) (C.1.2.2.2.2 _ (hw_c tw_i_X8_init)) rfl (by decide +kernel) ⟨Nat.le_of_ble_eq_true rfl, Nat.le_of_ble_eq_true rfl⟩) (hv_pm [0] rfl) rfl rfl (Nat.le_of_ble_eq_true rfl) dL_law_4 ⟨Nat.le_of_ble_eq_true rfl, Nat.le_of_ble_eq_true rfl⟩ (fun u8 _ => ?_)
  refine hv_eqst (st' := [.ref xx]) rfl ?_
  refine hv_weq (ws' := [(xx, .inr (6, [.ref u8.1, .ref u8.2.2.2.1, .ref u8.2.2.2.2.2.2.1, .ref u8.2.2.2.2.2.2.2.2.1, .ref u8.2.2.2.2.2.2.2.2.2.1, .ref u8.2.2.2.2.2.2.2.2.2.2.2.1])), (u8.1, .inr (0, [.int (zI ((sp_new 4 170) 0)), .int (zI ((sp_new 4 170) 1)), .int (zI ((sp_new 4 170) 2)), .int (zI ((sp_new 4 170) 3)), .int (zI ((sp_new 4 170) 4)), .int (zI ((sp_new 4 170) 5)), .ref u8.2.1, .ref u8.2.2.1])), (u8.2.1, .inr (1, [.int (zI ((sp_new 4 170) 6)), .int (zI ((sp_new 4 170) 8)), .int (zI ((sp_new 4 170) 10))])), (u8.2.2.1, .inr (1, [.int (zI ((sp_new 4 170) 7)), .int (zI ((sp_new 4 170) 9)), .int (zI ((sp_new 4 170) 11))])), (u8.2.2.2.1, .inr (0, [.int (zI ((sp_new 4 170) 0)), .int (zI ((sp_new 4 170) 1)), .int (zI ((sp_new 4 170) 2)), .int (zI ((sp_new 4 170) 3)), .int (zI ((sp_new 4 170) 4)), .int (zI ((sp_new 4 170) 5)), .ref u8.2.2.2.2.1, .ref u8.2.2.2.2.2.1])), (u8.2.2.2.2.1, .inr (1, [.int (zI ((sp_new 4 170) 6)), .int (zI ((sp_new 4 170) 8)), .int (zI ((sp_new 4 170) 10))])), (u8.2.2.2.2.2.1, .inr (1, [.int (zI ((sp_new 4 170) 7)), .int (zI ((sp_new 4 170) 9)), .int (zI ((sp_new 4 170) 11))])), (u8.2.2.2.2.2.2.1, .inr (2, [.ref u8.2.2.2.2.2.2.2.1, .int (zI (0)), .int (zI (0))])), (u8.2.2.2.2.2.2.2.1, .inl (dA 5, 14, .inr (.inr (.inr (.inr (fun _ => none)))))), (u8.2.2.2.2.2.2.2.2.1, .inl (dA 5, 2, .inr (.inr (.inr (.inr (fun _ => none)))))), (u8.2.2.2.2.2.2.2.2.2.1, .inr (5, [.ref u8.2.2.2.2.2.2.2.2.2.2.1, .int (zI (((0 : Nat) : Int)))])), (u8.2.2.2.2.2.2.2.2.2.2.1, .inl (dA 2, 120, .inl (fun i => zI ((fun _ => 0) i)))), (u8.2.2.2.2.2.2.2.2.2.2.2.1, .inr (4, [.ref u8.2.2.2.2.2.2.2.2.2.2.2.2])), (u8.2.2.2.2.2.2.2.2.2.2.2.2, .inl (dA 6, 45, .inr (.inr (.inr (.inr (fun _ => none))))))]) (rfl) ?_
  refine hv_astore_n C dL_law_7 (lw := [(1, .ref xx), (0, .ref b9)]) (by decide) rfl ?_
  refine hv_new C (ci := 7) (fs := [.int (zI (0)), .null, .int (zI (0)), .null, .null, .null, .int (zI (0)), .null, .null, .null, .int (zI (0)), .int (zI (0)), .int (zI (0))]) dL_law_8 (fun w h => hw_c (tw_u_9 w h)) tyX9 tyX9_ok (hw_c tw_c_RL_77) (hw_c tw_z_RX9) (hw_c tw_n_RX9) rfl (fun j hj => by rcases (show j = 0 ∨ j = 1 ∨ j = 2 ∨ j = 3 ∨ j = 4 ∨ j = 5 ∨ j = 6 ∨ j = 7 ∨ j = 8 ∨ j = 9 ∨ j = 10 ∨ j = 11 ∨ j = 12 by omega) with rfl | rfl | rfl | rfl | rfl | rfl | rfl | rfl | rfl | rfl | rfl | rfl | rfl <;> rfl) (Nat.le_of_ble_eq_true rfl) (Nat.le_of_ble_eq_true rfl) (fun m9 => ?_)
  refine hv_weq (ws' := [(xx, .inr (6, [.ref u8.1, .ref u8.2.2.2.1, .ref u8.2.2.2.2.2.2.1, .ref u8.2.2.2.2.2.2.2.2.1, .ref u8.2.2.2.2.2.2.2.2.2.1, .ref u8.2.2.2.2.2.2.2.2.2.2.2.1])), (u8.1, .inr (0, [.int (zI ((sp_new 4 170) 0)), .int (zI ((sp_new 4 170) 1)), .int (zI ((sp_new 4 170) 2)), .int (zI ((sp_new 4 170) 3)), .int (zI ((sp_new 4 170) 4)), .int (zI ((sp_new 4 170) 5)), .ref u8.2.1, .ref u8.2.2.1])), (u8.2.1, .inr (1, [.int (zI ((sp_new 4 170) 6)), .int (zI ((sp_new 4 170) 8)), .int (zI ((sp_new 4 170) 10))])), (u8.2.2.1, .inr (1, [.int (zI ((sp_new 4 170) 7)), .int (zI ((sp_new 4 170) 9)), .int (zI ((sp_new 4 170) 11))])), (u8.2.2.2.1, .inr (0, [.int (zI ((sp_new 4 170) 0)), .int (zI ((sp_new 4 170) 1)), .int (zI ((sp_new 4 170) 2)), .int (zI ((sp_new 4 170) 3)), .int (zI ((sp_new 4 170) 4)), .int (zI ((sp_new 4 170) 5)), .ref u8.2.2.2.2.1, .ref u8.2.2.2.2.2.1])), (u8.2.2.2.2.1, .inr (1, [.int (zI ((sp_new 4 170) 6)), .int (zI ((sp_new 4 170) 8)), .int (zI ((sp_new 4 170) 10))])), (u8.2.2.2.2.2.1, .inr (1, [.int (zI ((sp_new 4 170) 7)), .int (zI ((sp_new 4 170) 9)), .int (zI ((sp_new 4 170) 11))])), (u8.2.2.2.2.2.2.1, .inr (2, [.ref u8.2.2.2.2.2.2.2.1, .int (zI (0)), .int (zI (0))])), (u8.2.2.2.2.2.2.2.1, .inl (dA 5, 14, .inr (.inr (.inr (.inr (fun _ => none)))))), (u8.2.2.2.2.2.2.2.2.1, .inl (dA 5, 2, .inr (.inr (.inr (.inr (fun _ => none)))))), (u8.2.2.2.2.2.2.2.2.2.1, .inr (5, [.ref u8.2.2.2.2.2.2.2.2.2.2.1, .int (zI (((0 : Nat) : Int)))])), (u8.2.2.2.2.2.2.2.2.2.2.1, .inl (dA 2, 120, .inl (fun i => zI ((fun _ => 0) i)))), (u8.2.2.2.2.2.2.2.2.2.2.2.1, .inr (4, [.ref u8.2.2.2.2.2.2.2.2.2.2.2.2])), (u8.2.2.2.2.2.2.2.2.2.2.2.2, .inl (dA 6, 45, .inr (.inr (.inr (.inr (fun _ => none)))))), (m9, .inr (7, [.int (zI (0)), .null, .int (zI (0)), .null, .null, .null, .int (zI (0)), .null, .null, .null, .int (zI (0)), .int (zI (0)), .int (zI (0))]))]) rfl ?_
  refine hv_dup C dL_law_11 rfl ?_
  refine hv_callI (As := []) (rest := [.ref m9]) (wc := [(m9, .inr (7, [.int (zI (0)), .null, .int (zI (0)), .null, .null, .null, .int (zI (0)), .null, .null, .null, .int (zI (0)), .int (zI (0)), .int (zI (0))]))]) (wr := [(xx, .inr (6, [.ref u8.1, .ref u8.2.2.2.1, .ref u8.2.2.2.2.2.2.1, .ref u8.2.2.2.2.2.2.2.2.1, .ref u8.2.2.2.2.2.2.2.2.2.1, .ref u8.2.2.2.2.2.2.2.2.2.2.2.1])), (u8.1, .inr (0, [.int (zI ((sp_new 4 170) 0)), .int (zI ((sp_new 4 170) 1)), .int (zI ((sp_new 4 170) 2)), .int (zI ((sp_new 4 170) 3)), .int (zI ((sp_new 4 170) 4)), .int (zI ((sp_new 4 170) 5)), .ref u8.2.1, .ref u8.2.2.1])), (u8.2.1, .inr (1, [.int (zI ((sp_new 4 170) 6)), .int (zI ((sp_new 4 170) 8)), .int (zI ((sp_new 4 170) 10))])), (u8.2.2.1, .inr (1, [.int (zI ((sp_new 4 170) 7)), .int (zI ((sp_new 4 170) 9)), .int (zI ((sp_new 4 170) 11))])), (u8.2.2.2.1, .inr (0, [.int (zI ((sp_new 4 170) 0)), .int (zI ((sp_new 4 170) 1)), .int (zI ((sp_new 4 170) 2)), .int (zI ((sp_new 4 170) 3)), .int (zI ((sp_new 4 170) 4)), .int (zI ((sp_new 4 170) 5)), .ref u8.2.2.2.2.1, .ref u8.2.2.2.2.2.1])), (u8.2.2.2.2.1, .inr (1, [.int (zI ((sp_new 4 170) 6)), .int (zI ((sp_new 4 170) 8)), .int (zI ((sp_new 4 170) 10))])), (u8.2.2.2.2.2.1, .inr (1, [.int (zI ((sp_new 4 170) 7)), .int (zI ((sp_new 4 170) 9)), .int (zI ((sp_new 4 170) 11))])), (u8.2.2.2.2.2.2.1, .inr (2, [.ref u8.2.2.2.2.2.2.2.1, .int (zI (0)), .int (zI (0))])), (u8.2.2.2.2.2.2.2.1, .inl (dA 5, 14, .inr (.inr (.inr (.inr (fun _ => none)))))), (u8.2.2.2.2.2.2.2.2.1, .inl (dA 5, 2, .inr (.inr (.inr (.inr (fun _ => none)))))), (u8.2.2.2.2.2.2.2.2.2.1, .inr (5, [.ref u8.2.2.2.2.2.2.2.2.2.2.1, .int (zI (((0 : Nat) : Int)))])), (u8.2.2.2.2.2.2.2.2.2.2.1, .inl (dA 2, 120, .inl (fun i => zI ((fun _ => 0) i)))), (u8.2.2.2.2.2.2.2.2.2.2.2.1, .inr (4, [.ref u8.2.2.2.2.2.2.2.2.2.2.2.2])), (u8.2.2.2.2.2.2.2.2.2.2.2.2, .inl (dA 6, 45, .inr (.inr (.inr (.inr (fun _ => none))))))]) C (k_X9_init l D dA m9) (cwI 0 C.1.2.2.2.2 (hw_good tw_k_X9_init) rfl rfl rfl (C.1.2.2.2.2 _ (hw_c tw_n_RX9)) (C.1.2.2.2.2 _ (hw_c tw_m_RL_79)) (C.1.2.2.2.2 _ (hw_c tw_i_X9_init)) rfl (by decide +kernel) ⟨Nat.le_of_ble_eq_true rfl, Nat.le_of_ble_eq_true rfl⟩) (hv_pm [14] rfl) rfl rfl (Nat.le_of_ble_eq_true rfl) dL_law_12 ⟨Nat.le_of_ble_eq_true rfl, Nat.le_of_ble_eq_true rfl⟩ (fun v9 _ => ?_)
  refine hv_eqst (st' := [.ref m9]) rfl ?_
  refine hv_weq (ws' := [(m9, .inr (7, [.int (zI (0)), .ref v9.1, .int (zI (0)), .ref v9.2.1, .ref v9.2.2.1, .ref v9.2.2.2.1, .int (zI (0)), .ref v9.2.2.2.2.1, .ref v9.2.2.2.2.2.1, .ref v9.2.2.2.2.2.2, .int (zI (-1)), .int (zI (0)), .int (zI (0))])), (v9.1, .inl (dA 0, 120, .inl (fun i => zI ((fun _ => 0) i)))), (v9.2.1, .inl (dA 0, 12, .inl (fun i => zI ((sp_new 4 170) i)))), (v9.2.2.1, .inl (dA 0, 12, .inl (fun i => zI ((fun _ => 0) i)))), (v9.2.2.2.1, .inl (dA 0, 168, .inl (fun i => zI ((fun _ => 0) i)))), (v9.2.2.2.2.1, .inl (dA 0, 24, .inl (fun i => zI ((fun _ => 0) i)))), (v9.2.2.2.2.2.1, .inl (dA 3, 2, .inl (fun i => zI (zB ((fun _ => false) i))))), (v9.2.2.2.2.2.2, .inl (dA 0, 4096, .inl (fun i => zI ((fun _ => 0) i)))), (xx, .inr (6, [.ref u8.1, .ref u8.2.2.2.1, .ref u8.2.2.2.2.2.2.1, .ref u8.2.2.2.2.2.2.2.2.1, .ref u8.2.2.2.2.2.2.2.2.2.1, .ref u8.2.2.2.2.2.2.2.2.2.2.2.1])), (u8.1, .inr (0, [.int (zI ((sp_new 4 170) 0)), .int (zI ((sp_new 4 170) 1)), .int (zI ((sp_new 4 170) 2)), .int (zI ((sp_new 4 170) 3)), .int (zI ((sp_new 4 170) 4)), .int (zI ((sp_new 4 170) 5)), .ref u8.2.1, .ref u8.2.2.1])), (u8.2.1, .inr (1, [.int (zI ((sp_new 4 170) 6)), .int (zI ((sp_new 4 170) 8)), .int (zI ((sp_new 4 170) 10))])), (u8.2.2.1, .inr (1, [.int (zI ((sp_new 4 170) 7)), .int (zI ((sp_new 4 170) 9)), .int (zI ((sp_new 4 170) 11))])), (u8.2.2.2.1, .inr (0, [.int (zI ((sp_new 4 170) 0)), .int (zI ((sp_new 4 170) 1)), .int (zI ((sp_new 4 170) 2)), .int (zI ((sp_new 4 170) 3)), .int (zI ((sp_new 4 170) 4)), .int (zI ((sp_new 4 170) 5)), .ref u8.2.2.2.2.1, .ref u8.2.2.2.2.2.1])), (u8.2.2.2.2.1, .inr (1, [.int (zI ((sp_new 4 170) 6)), .int (zI ((sp_new 4 170) 8)), .int (zI ((sp_new 4 170) 10))])), (u8.2.2.2.2.2.1, .inr (1, [.int (zI ((sp_new 4 170) 7)), .int (zI ((sp_new 4 170) 9)), .int (zI ((sp_new 4 170) 11))])), (u8.2.2.2.2.2.2.1, .inr (2, [.ref u8.2.2.2.2.2.2.2.1, .int (zI (0)), .int (zI (0))])), (u8.2.2.2.2.2.2.2.1, .inl (dA 5, 14, .inr (.inr (.inr (.inr (fun _ => none)))))), (u8.2.2.2.2.2.2.2.2.1, .inl (dA 5, 2, .inr (.inr (.inr (.inr (fun _ => none)))))), (u8.2.2.2.2.2.2.2.2.2.1, .inr (5, [.ref u8.2.2.2.2.2.2.2.2.2.2.1, .int (zI (((0 : Nat) : Int)))])), (u8.2.2.2.2.2.2.2.2.2.2.1, .inl (dA 2, 120, .inl (fun i => zI ((fun _ => 0) i)))), (u8.2.2.2.2.2.2.2.2.2.2.2.1, .inr (4, [.ref u8.2.2.2.2.2.2.2.2.2.2.2.2])), (u8.2.2.2.2.2.2.2.2.2.2.2.2, .inl (dA 6, 45, .inr (.inr (.inr (.inr (fun _ => none))))))]) (rfl) ?_
  refine hv_astore_n C dL_law_15 (lw := [(2, .ref m9), (1, .ref xx), (0, .ref b9)]) (by decide) rfl ?_
  refine hv_iconst C dL_law_16 (v := zI (1)) rfl ?_
  refine hv_newa C (atype := .long) (ty := .long) dL_law_17 rfl (hw_c tw_a_long) 4 rfl (fun _ h => by cases h) (N' := 1) (1, .inr (.inl (fun _ => 0))) (fun _ => rfl) (rfl) (by decide) (by decide) (Nat.le_of_ble_eq_true rfl) (Nat.le_of_ble_eq_true rfl) (fun o9 => ?_)
  refine hv_weq (ws' := [(m9, .inr (7, [.int (zI (0)), .ref v9.1, .int (zI (0)), .ref v9.2.1, .ref v9.2.2.1, .ref v9.2.2.2.1, .int (zI (0)), .ref v9.2.2.2.2.1, .ref v9.2.2.2.2.2.1, .ref v9.2.2.2.2.2.2, .int (zI (-1)), .int (zI (0)), .int (zI (0))])), (v9.1, .inl (dA 0, 120, .inl (fun i => zI ((fun _ => 0) i)))), (v9.2.1, .inl (dA 0, 12, .inl (fun i => zI ((sp_new 4 170) i)))), (v9.2.2.1, .inl (dA 0, 12, .inl (fun i => zI ((fun _ => 0) i)))), (v9.2.2.2.1, .inl (dA 0, 168, .inl (fun i => zI ((fun _ => 0) i)))), (v9.2.2.2.2.1, .inl (dA 0, 24, .inl (fun i => zI ((fun _ => 0) i)))), (v9.2.2.2.2.2.1, .inl (dA 3, 2, .inl (fun i => zI (zB ((fun _ => false) i))))), (v9.2.2.2.2.2.2, .inl (dA 0, 4096, .inl (fun i => zI ((fun _ => 0) i)))), (xx, .inr (6, [.ref u8.1, .ref u8.2.2.2.1, .ref u8.2.2.2.2.2.2.1, .ref u8.2.2.2.2.2.2.2.2.1, .ref u8.2.2.2.2.2.2.2.2.2.1, .ref u8.2.2.2.2.2.2.2.2.2.2.2.1])), (u8.1, .inr (0, [.int (zI ((sp_new 4 170) 0)), .int (zI ((sp_new 4 170) 1)), .int (zI ((sp_new 4 170) 2)), .int (zI ((sp_new 4 170) 3)), .int (zI ((sp_new 4 170) 4)), .int (zI ((sp_new 4 170) 5)), .ref u8.2.1, .ref u8.2.2.1])), (u8.2.1, .inr (1, [.int (zI ((sp_new 4 170) 6)), .int (zI ((sp_new 4 170) 8)), .int (zI ((sp_new 4 170) 10))])), (u8.2.2.1, .inr (1, [.int (zI ((sp_new 4 170) 7)), .int (zI ((sp_new 4 170) 9)), .int (zI ((sp_new 4 170) 11))])), (u8.2.2.2.1, .inr (0, [.int (zI ((sp_new 4 170) 0)), .int (zI ((sp_new 4 170) 1)), .int (zI ((sp_new 4 170) 2)), .int (zI ((sp_new 4 170) 3)), .int (zI ((sp_new 4 170) 4)), .int (zI ((sp_new 4 170) 5)), .ref u8.2.2.2.2.1, .ref u8.2.2.2.2.2.1])), (u8.2.2.2.2.1, .inr (1, [.int (zI ((sp_new 4 170) 6)), .int (zI ((sp_new 4 170) 8)), .int (zI ((sp_new 4 170) 10))])), (u8.2.2.2.2.2.1, .inr (1, [.int (zI ((sp_new 4 170) 7)), .int (zI ((sp_new 4 170) 9)), .int (zI ((sp_new 4 170) 11))])), (u8.2.2.2.2.2.2.1, .inr (2, [.ref u8.2.2.2.2.2.2.2.1, .int (zI (0)), .int (zI (0))])), (u8.2.2.2.2.2.2.2.1, .inl (dA 5, 14, .inr (.inr (.inr (.inr (fun _ => none)))))), (u8.2.2.2.2.2.2.2.2.1, .inl (dA 5, 2, .inr (.inr (.inr (.inr (fun _ => none)))))), (u8.2.2.2.2.2.2.2.2.2.1, .inr (5, [.ref u8.2.2.2.2.2.2.2.2.2.2.1, .int (zI (((0 : Nat) : Int)))])), (u8.2.2.2.2.2.2.2.2.2.2.1, .inl (dA 2, 120, .inl (fun i => zI ((fun _ => 0) i)))), (u8.2.2.2.2.2.2.2.2.2.2.2.1, .inr (4, [.ref u8.2.2.2.2.2.2.2.2.2.2.2.2])), (u8.2.2.2.2.2.2.2.2.2.2.2.2, .inl (dA 6, 45, .inr (.inr (.inr (.inr (fun _ => none)))))), (o9, .inl (dA 4, 1, .inr (.inl (fun _ => 0))))]) rfl ?_
  refine hv_astore_n C dL_law_19 (lw := [(3, .ref o9), (2, .ref m9), (1, .ref xx), (0, .ref b9)]) (by decide) rfl ?_
  refine hv_iconst C dL_law_20 (v := zI (0)) rfl ?_
  refine hv_istore C dL_law_21 (lw := [(4, .int (zI (0))), (3, .ref o9), (2, .ref m9), (1, .ref xx), (0, .ref b9)]) (by decide) rfl ?_
  refine hv_lsub [0, 4, 3, 2, 1] (lv' := [(4, .int (zI (((5 * 0 : Nat) : Int)))), (0, .ref b9), (1, .ref xx), (2, .ref m9), (3, .ref o9)]) rfl ?_
  refine hv_perm (ws' := [(xx, .inr (6, [.ref u8.1, .ref u8.2.2.2.1, .ref u8.2.2.2.2.2.2.1, .ref u8.2.2.2.2.2.2.2.2.1, .ref u8.2.2.2.2.2.2.2.2.2.1, .ref u8.2.2.2.2.2.2.2.2.2.2.2.1])), (u8.1, .inr (0, [.int (zI ((sp_new 4 170) 0)), .int (zI ((sp_new 4 170) 1)), .int (zI ((sp_new 4 170) 2)), .int (zI ((sp_new 4 170) 3)), .int (zI ((sp_new 4 170) 4)), .int (zI ((sp_new 4 170) 5)), .ref u8.2.1, .ref u8.2.2.1])), (u8.2.1, .inr (1, [.int (zI ((sp_new 4 170) 6)), .int (zI ((sp_new 4 170) 8)), .int (zI ((sp_new 4 170) 10))])), (u8.2.2.1, .inr (1, [.int (zI ((sp_new 4 170) 7)), .int (zI ((sp_new 4 170) 9)), .int (zI ((sp_new 4 170) 11))])), (u8.2.2.2.1, .inr (0, [.int (zI ((sp_new 4 170) 0)), .int (zI ((sp_new 4 170) 1)), .int (zI ((sp_new 4 170) 2)), .int (zI ((sp_new 4 170) 3)), .int (zI ((sp_new 4 170) 4)), .int (zI ((sp_new 4 170) 5)), .ref u8.2.2.2.2.1, .ref u8.2.2.2.2.2.1])), (u8.2.2.2.2.1, .inr (1, [.int (zI ((sp_new 4 170) 6)), .int (zI ((sp_new 4 170) 8)), .int (zI ((sp_new 4 170) 10))])), (u8.2.2.2.2.2.1, .inr (1, [.int (zI ((sp_new 4 170) 7)), .int (zI ((sp_new 4 170) 9)), .int (zI ((sp_new 4 170) 11))])), (u8.2.2.2.2.2.2.1, .inr (2, [.ref u8.2.2.2.2.2.2.2.1, .int (zI (0)), .int (zI (0))])), (u8.2.2.2.2.2.2.2.1, .inl (dA 5, 14, .inr (.inr (.inr (.inr (fun _ => none)))))), (u8.2.2.2.2.2.2.2.2.1, .inl (dA 5, 2, .inr (.inr (.inr (.inr (fun _ => none)))))), (u8.2.2.2.2.2.2.2.2.2.1, .inr (5, [.ref u8.2.2.2.2.2.2.2.2.2.2.1, .int (zI (((0 : Nat) : Int)))])), (u8.2.2.2.2.2.2.2.2.2.2.1, .inl (dA 2, 120, .inl (fun i => zI ((fun _ => 0) i)))), (u8.2.2.2.2.2.2.2.2.2.2.2.1, .inr (4, [.ref u8.2.2.2.2.2.2.2.2.2.2.2.2])), (u8.2.2.2.2.2.2.2.2.2.2.2.2, .inl (dA 6, 45, .inr (.inr (.inr (.inr (fun _ => none)))))), (m9, .inr (7, [.int (zI (0)), .ref v9.1, .int (zI (0)), .ref v9.2.1, .ref v9.2.2.1, .ref v9.2.2.2.1, .int (zI (0)), .ref v9.2.2.2.2.1, .ref v9.2.2.2.2.2.1, .ref v9.2.2.2.2.2.2, .int (zI (-1)), .int (zI (0)), .int (zI (0))])), (v9.1, .inl (dA 0, 120, .inl (fun i => zI ((fun _ => 0) i)))), (v9.2.1, .inl (dA 0, 12, .inl (fun i => zI ((sp_new 4 170) i)))), (v9.2.2.1, .inl (dA 0, 12, .inl (fun i => zI ((fun _ => 0) i)))), (v9.2.2.2.1, .inl (dA 0, 168, .inl (fun i => zI ((fun _ => 0) i)))), (v9.2.2.2.2.1, .inl (dA 0, 24, .inl (fun i => zI ((fun _ => 0) i)))), (v9.2.2.2.2.2.1, .inl (dA 3, 2, .inl (fun i => zI (zB ((fun _ => false) i))))), (v9.2.2.2.2.2.2, .inl (dA 0, 4096, .inl (fun i => zI ((fun _ => 0) i)))), (o9, .inl (dA 4, 1, .inr (.inl (fun _ => 0))))]) (hv_ix [8, 9, 10, 11, 12, 13, 14, 15, 16, 17, 18, 19, 20, 21, 0, 1, 2, 3, 4, 5, 6, 7, 22] 23 rfl rfl (by decide +kernel)) ?_
  refine hv_widen (ce' := 9 * 0 + 30) (sl' := 12438 * 0 + 4700) (by decide) (by decide) ?_
  refine hv_weq (ws' := lw_w dA xx (u8.1) (u8.2.1) (u8.2.2.1) (u8.2.2.2.1) (u8.2.2.2.2.1) (u8.2.2.2.2.2.1) (u8.2.2.2.2.2.2.1) (u8.2.2.2.2.2.2.2.1) (u8.2.2.2.2.2.2.2.2.1) (u8.2.2.2.2.2.2.2.2.2.1) (u8.2.2.2.2.2.2.2.2.2.2.1) (u8.2.2.2.2.2.2.2.2.2.2.2.1) (u8.2.2.2.2.2.2.2.2.2.2.2.2) m9 (v9.1) (v9.2.1) (v9.2.2.1) (v9.2.2.2.1) (v9.2.2.2.2.1) (v9.2.2.2.2.2.1) (v9.2.2.2.2.2.2) o9 0 (fun _ => 0) (sp_new 4 170) (sp_new 4 170) 0 0 (fun _ => false) (fun _ => (0, 0, 0)) (fun _ _ => 0) (fun _ => false) (fun _ => (0, 0, 0)) (fun _ _ => 0) (fun _ => false) (fun _ => (0, 0, 0)) (fun _ _ => 0) 0 (fun _ => 0) (fun _ => 0) (fun _ => 0) (-1) (fun _ => 0) 0 0 (fun _ => 0)) (by show _ = _ ++ List.flatten _; rw [pl_nil (F := mo_F (fun _ => false) (fun _ => (0, 0, 0)) (fun _ _ => 0)) (fun _ => rfl), pl_nil (F := mo_F (fun _ => false) (fun _ => (0, 0, 0)) (fun _ _ => 0)) (fun _ => rfl), pl_nil (F := ol_F dA (fun _ => false) (fun _ => (0, 0, 0)) (fun _ _ => 0)) (fun _ => rfl)]; rfl) ?_
  exact lc_all C X hst hX hbl hbA hL xx (u8.1) (u8.2.1) (u8.2.2.1) (u8.2.2.2.1) (u8.2.2.2.2.1) (u8.2.2.2.2.2.1) (u8.2.2.2.2.2.2.1) (u8.2.2.2.2.2.2.2.1) (u8.2.2.2.2.2.2.2.2.1) (u8.2.2.2.2.2.2.2.2.2.1) (u8.2.2.2.2.2.2.2.2.2.2.1) (u8.2.2.2.2.2.2.2.2.2.2.2.1) (u8.2.2.2.2.2.2.2.2.2.2.2.2) m9 (v9.1) (v9.2.1) (v9.2.2.1) (v9.2.2.2.1) (v9.2.2.2.2.1) (v9.2.2.2.2.2.1) (v9.2.2.2.2.2.2) o9 (fun i n tx g gc sz nx al ga ct sal sga sct oal oa kf rf t d kp ld wv sp ou f h2 => KE i xx (u8.1) (u8.2.1) (u8.2.2.1) (u8.2.2.2.1) (u8.2.2.2.2.1) (u8.2.2.2.2.2.1) (u8.2.2.2.2.2.2.1) (u8.2.2.2.2.2.2.2.1) (u8.2.2.2.2.2.2.2.2.1) (u8.2.2.2.2.2.2.2.2.2.1) (u8.2.2.2.2.2.2.2.2.2.2.1) (u8.2.2.2.2.2.2.2.2.2.2.2.1) (u8.2.2.2.2.2.2.2.2.2.2.2.2) m9 (v9.1) (v9.2.1) (v9.2.2.1) (v9.2.2.2.1) (v9.2.2.2.2.1) (v9.2.2.2.2.2.1) (v9.2.2.2.2.2.2) o9 n tx g gc sz nx al ga ct sal sga sct oal oa kf rf t d kp ld wv sp ou f h2) 513 0 0 (fun _ => 0) (sp_new 4 170) (sp_new 4 170) 0 0 (fun _ => false) (fun _ => (0, 0, 0)) (fun _ _ => 0) (fun _ => false) (fun _ => (0, 0, 0)) (fun _ _ => 0) (fun _ => false) (fun _ => (0, 0, 0)) (fun _ _ => 0) 0 (fun _ => 0) (fun _ => 0) (fun _ => 0) (-1) (fun _ => 0) 0 0 (fun _ => 0) rfl (Nat.zero_le _) ⟨Nat.zero_le _, (fun _ => ⟨Int.le_refl 0, (by decide : (0 : Int) ≤ 255)⟩), WF_new (S := 4) (b := 170) ⟨by decide, by decide⟩ (by decide), Nat.zero_le _, Nat.zero_le _, (fun k hk => absurd hk (Nat.not_lt_zero _)), (fun k hk => absurd hk (Nat.not_lt_zero _)), (fun z _ ha => Bool.noConfusion ha), (fun z _ ha => Bool.noConfusion ha), (fun z _ ha => Bool.noConfusion ha), Or.inl rfl⟩
