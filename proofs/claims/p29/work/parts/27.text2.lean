abbrev T2 (dA : Nat → ClassId) (tt ss n : Nat) (tx : Nat → Int) : va_W := [(tt, .inr (5, [.ref ss, .int (zI ((n : Int)))])), (ss, .inl (dA 2, 120, .inl (fun i => zI (tx i))))]

set_option maxHeartbeats 4000000 in
set_option maxRecDepth 100000 in
theorem k_X7_init (l : Launch) (D : va_G) (dA : Nat → ClassId) (tt : Nat) : hv_Ct l yX7_init (hw_W yX7_init cX7_init 1 none) 1 D dA [.ref tt] ([(tt, .inr (5, [.null, .int (zI (0))]))]) 1 120 (S := Nat) (fun _ => none) (fun _ => True) (fun u => T2 dA tt u 0 (fun _ => 0)) := by
  refine hv_of (cc := cX7_init) (maxL := 1) (ret := none) (own := RX7) rfl (by decide) rfl (Nat.le_of_ble_eq_true rfl) ?_
  intro p e s m args below meth c C M
  refine hv_lveq (lv' := [(0, .ref tt)]) rfl ?_
  refine hv_aload_n C dX7_init_0 0 rfl ?_
  refine hv_obj C dX7_init_1 (hw_c tw_m_RX7_3) (hw_c tw_i_objectInit) (hw_c tw_k_objectInit) (Nat.le_of_ble_eq_true rfl) ⟨Nat.le_of_ble_eq_true rfl, Nat.le_of_ble_eq_true rfl⟩ ?_
  refine hv_aload_n C dX7_init_4 0 rfl ?_
  refine hv_bipush C dX7_init_5 (v := zI (120)) (by decide +kernel) ?_
  refine hv_newa C (atype := .char) (ty := .char) dX7_init_7 rfl (hw_c tw_a_char) 2 rfl (fun _ h => by cases h) (N' := 120) (120, .inl (fun _ => 0)) (fun _ => rfl) (rfl) (by decide) (by decide) (Nat.le_of_ble_eq_true rfl) (Nat.le_of_ble_eq_true rfl) (fun q1 => ?_)
  refine hv_weq (ws' := [(tt, .inr (5, [.null, .int (zI (0))])), (q1, .inl (dA 2, 120, .inl (fun _ => 0)))]) rfl ?_
  refine hv_putF C dX7_init_9 (fun w h => hw_c (tw_u_7 w h)) tyX7 tyX7_ok nmX7 0 (ci := 5) (ty := (.array .char)) rfl rfl 0 (by decide) (hw_c tw_f_RX7_9) rfl M.2.2 rfl rfl rfl rfl (Nat.le_of_ble_eq_true rfl) ?_
  refine hv_weq (ws' := [(tt, .inr (5, [.ref q1, .int (zI (0))])), (q1, .inl (dA 2, 120, .inl (fun _ => 0)))]) rfl ?_
  exact hv_vret C M dX7_init_12 rfl q1 trivial rfl [] (List.Perm.of_eq (by first | rfl | exact (List.append_nil _).symm)) (Nat.le_refl _) (Nat.le_refl _)

def sx_put (tx : Nat → Int) (n : Nat) (z : Int) : Nat → Int := fun i => if i = n then z else tx i
theorem sx_put_upd (tx : Nat → Int) (n : Nat) (z : Int) : upd (fun i => zI (tx i)) n (zI z) = fun i => zI (sx_put tx n z i) := by
  funext i
  unfold upd sx_put
  by_cases q : i = n
  · rw [if_pos q, if_pos q]
  · rw [if_neg q, if_neg q]
theorem sx_chr {z : Int} (h : 0 ≤ z ∧ z ≤ 255) : vp_nar .char (zI z) = zI z := by
  have h1 : ∀ n : Nat, n < 256 → vp_nar .char (zI (n : Int)) = zI (n : Int) := sp_all (by decide +kernel)
  have h2 := h1 z.toNat (by omega)
  rw [show ((z.toNat : Nat) : Int) = z by omega] at h2
  exact h2

set_option maxHeartbeats 4000000 in
set_option maxRecDepth 100000 in
theorem k_X7_takes (l : Launch) (D : va_G) (dA : Nat → ClassId) (tt ss n : Nat) (tx : Nat → Int) (hn : n ≤ 120) (hr : sx_rg tx) (z : Int) (hz : 0 ≤ z ∧ z ≤ 255) : hv_Ct l yX7_takes (hw_W yX7_takes cX7_takes 2 (some .boolean)) 0 D dA [.ref tt, .int (zI (z))] ([(tt, .inr (5, [.ref ss, .int (zI ((n : Int)))])), (ss, .inl (dA 2, 120, .inl (fun i => zI (tx i))))]) 0 0 (S := Unit) (fun _ => some (.int (zI (zB (decide (n < 120)))))) (fun _ => True) (fun _ => T2 dA tt ss (if n < 120 then n + 1 else n) (if n < 120 then sx_put tx n z else tx)) := by
  refine hv_of (cc := cX7_takes) (maxL := 2) (ret := (some .boolean)) (own := RX7) rfl (by decide) rfl (Nat.le_of_ble_eq_true rfl) ?_
  intro p e s m args below meth c C M
  refine hv_lveq (lv' := [(0, .ref tt), (1, .int (zI (z)))]) rfl ?_
  refine hv_aload_n C dX7_takes_0 0 rfl ?_
  refine hv_get C dX7_takes_1 (fun w h => hw_c (tw_u_7 w h)) 0 (ci := 5) rfl rfl 1 (by decide) (hw_c tw_f_RX7_15) rfl ?_
  refine hv_if_lt C dX7_takes_4 (tgt := 19) (by decide) (zI_lt0 (by omega)) (fun hc4 => ?_) (fun hc4 => ?_)
  · exfalso; omega
  · refine hv_aload_n C dX7_takes_7 0 rfl ?_
    refine hv_get C dX7_takes_8 (fun w h => hw_c (tw_u_7 w h)) 0 (ci := 5) rfl rfl 1 (by decide) (hw_c tw_f_RX7_15) rfl ?_
    refine hv_aload_n C dX7_takes_11 0 rfl ?_
    refine hv_get C dX7_takes_12 (fun w h => hw_c (tw_u_7 w h)) 0 (ci := 5) rfl rfl 0 (by decide) (hw_c tw_f_RX7_9) rfl ?_
    refine hv_alen C 2 dX7_takes_15 1 rfl rfl (v := zI (120)) (rfl) ?_
    refine hv_icmp_lt C dX7_takes_16 (tgt := 21) (by decide) (zI_lt (by omega)) (fun hc16 => ?_) (fun hc16 => ?_)
    · refine hv_aload_n C dX7_takes_21 0 rfl ?_
      refine hv_get C dX7_takes_22 (fun w h => hw_c (tw_u_7 w h)) 0 (ci := 5) rfl rfl 0 (by decide) (hw_c tw_f_RX7_9) rfl ?_
      refine hv_aload_n C dX7_takes_25 0 rfl ?_
      refine hv_get C dX7_takes_26 (fun w h => hw_c (tw_u_7 w h)) 0 (ci := 5) rfl rfl 1 (by decide) (hw_c tw_f_RX7_15) rfl ?_
      refine hv_iload_n C dX7_takes_29 1 rfl ?_
      refine hv_cast C dX7_takes_30 1 rfl (n) (zI_nat _) (by omega) (by omega) (y := zI z) (by exact sx_chr (by omega)) ?_
      refine hv_weq (ws' := [(tt, .inr (5, [.ref ss, .int (zI ((n : Int)))])), (ss, .inl (dA 2, 120, .inl (fun i => zI (sx_put tx n z i))))]) (by rw [show upd (fun i => zI (tx i)) n (zI z) = fun i => zI (sx_put tx n z i) from sx_put_upd tx n z]; rfl) ?_
      refine hv_aload_n C dX7_takes_31 0 rfl ?_
      refine hv_dup C dX7_takes_32 rfl ?_
      refine hv_get C dX7_takes_33 (fun w h => hw_c (tw_u_7 w h)) 0 (ci := 5) rfl rfl 1 (by decide) (hw_c tw_f_RX7_15) rfl ?_
      refine hv_iconst C dX7_takes_36 (v := zI (1)) rfl ?_
      refine hv_iadd C dX7_takes_37 (z := zI (((n + 1 : Nat) : Int))) ((zI_add _ _).trans (zI_c (by omega))) ?_
      refine hv_put C dX7_takes_38 (fun w h => hw_c (tw_u_7 w h)) tyX7 tyX7_ok nmX7 0 (ci := 5) (ty := .int) rfl rfl 1 (by decide) (hw_c tw_f_RX7_15) rfl rfl rfl rfl (Nat.le_of_ble_eq_true rfl) ?_
      refine hv_weq (ws' := [(tt, .inr (5, [.ref ss, .int (zI (((n + 1 : Nat) : Int)))])), (ss, .inl (dA 2, 120, .inl (fun i => zI (sx_put tx n z i))))]) rfl ?_
      refine hv_iconst C dX7_takes_41 (v := zI (1)) rfl ?_
      exact hv_iret C M dX7_takes_42 rfl zB_n1 () trivial (hv_rv (zB_T (by omega))) [] (List.Perm.of_eq (by first | (rw [if_pos (by omega), if_pos (by omega)]; rfl) | (rw [if_neg (by omega), if_neg (by omega)]; rfl))) (Nat.le_refl _) (Nat.le_refl _)
    · refine hv_iconst C dX7_takes_19 (v := zI (0)) rfl ?_
      exact hv_iret C M dX7_takes_20 rfl zB_n2 () trivial (hv_rv (zB_F (by omega))) [] (List.Perm.of_eq (by first | (rw [if_pos (by omega), if_pos (by omega)]; rfl) | (rw [if_neg (by omega), if_neg (by omega)]; rfl))) (Nat.le_refl _) (Nat.le_refl _)

