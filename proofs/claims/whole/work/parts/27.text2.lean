abbrev T2 (dA : Nat → ClassId) (tt ss n : Nat) (tx : Nat → Int) : va_W := [(tt, .inr (5, [.ref ss, .int (zI ((n : Int)))])), (ss, .inl (dA 2, 120, .inl (fun i => zI (tx i))))]

set_option maxHeartbeats 4000000 in
set_option maxRecDepth 100000 in
theorem k_X7_init (l : Launch) (D : va_G) (dA : Nat → ClassId) (tt : Nat) : hv_Ct l yX7_init (hw_W yX7_init cX7_init 1 none) 1 D dA [.ref tt] ([(tt, .inr (5, [.null, .int (zI (0))]))]) 1 120 (S := Nat) (fun _ => none) (fun _ => True) (fun u => T2 dA tt u 0 (fun _ => 0)) := by
  refine hv_of (cc := cX7_init) (maxL := 1) (ret := none) (own := RX7) rfl (by decide) rfl (Nat.le_of_ble_eq_true rfl) ?_
  intro p e s m args below meth c C M
  refine hv_lveq (lv' := [(0, .ref tt)]) rfl ?_
  refine hv_aload_n C dX7_init_0 0 rfl ?_
  refine hv_obj C dX7_init_1 (hw_c tw_m_RX7_3) (hw_c tw_i_objectInit) (hw_c tw_k_objectInit) (Nat.le_of_ble_eq_true rfl) ⟨Nat.le_of_ble_eq_true rfl, Nat.le_of_ble_eq_true rfl⟩ ?_
  refine hv_aload_n C dX7_init_4 0 rfl ?_
  refine hv_bipush C dX7_init_5 (v := zI (120)) (by decide +kernel) ?_
  refine hv_newa C (atype := .char) (ty := .char) dX7_init_7 rfl (hw_c tw_a_char) 2 rfl (fun _ h => by cases h) (N' := 120) (120, .inl (fun _ => 0)) (fun _ => rfl) (rfl) (by decide) (by decide) (Nat.le_of_ble_eq_true rfl) (Nat.le_of_ble_eq_true rfl) (fun q1 => ?_)
  refine hv_weq (ws' := [(tt, .inr (5, [.null, .int (zI (0))])), (q1, .inl (dA 2, 120, .inl (fun _ => 0)))]) rfl ?_
  refine hv_putF C dX7_init_9 (fun w h => hw_c (tw_u_7 w h)) tyX7 tyX7_ok nmX7 0 (ci := 5) (ty := (.array .char)) rfl rfl 0 (by decide) (hw_c tw_f_RX7_9) rfl M.2.2 rfl rfl rfl rfl (Nat.le_of_ble_eq_true rfl) ?_
  refine hv_weq (ws' := [(tt, .inr (5, [.ref q1, .int (zI (0))])), (q1, .inl (dA 2, 120, .inl (fun _ => 0)))]) rfl ?_
  exact hv_vret C M dX7_init_12 rfl q1 trivial rfl [] (List.Perm.of_eq (by first | rfl | exact (List.append_nil _).symm)) (Nat.le_refl _) (Nat.le_refl _)

def sx_put (tx : Nat → Int) (n : Nat) (z : Int) : Nat → Int := fun i => if i = n then z else tx i
theorem sx_put_upd (tx : Nat → Int) (n : Nat) (z : Int) : upd (fun i => zI (tx i)) n (zI z) = fun i => zI (sx_put tx n z i) := by
  funext i
  unfold upd sx_put
  by_cases q : i = n
  · rw [if_pos q, if_pos q]
  · rw [if_neg q, if_neg q]
theorem sx_chr {z : Int} (h : 0 ≤ z ∧ z ≤ 255) : vp_nar .char (zI z) = zI z := by
  have h1 : ∀ n : Nat, n < 256 → vp_nar .char (zI (n : Int)) = zI (n : Int) := sp_all (by decide +kernel)
  have h2 := h1 z.toNat (by omega)
  rw [show ((z.toNat : Nat) : Int) = z by omega] at h2
  exact h2

set_option maxHeartbeats 4000000 in
set_option maxRecDepth 100000 in
theorem k_X7_takes (l : Launch) (D : va_G) (dA : Nat → ClassId) (tt ss n : Nat) (tx : Nat → Int) (hn : n ≤ 120) (hr : sx_rg tx) (z : Int) (hz : 0 ≤ z ∧ z ≤ 255) : hv_Ct l yX7_takes (hw_W yX7_takes cX7_takes 2 (some .boolean)) 0 D dA [.ref tt, .int (zI (z))] ([(tt, .inr (5, [.ref ss, .int (zI ((n : Int)))])), (ss, .inl (dA 2, 120, .inl (fun i => zI (tx i))))]) 0 0 (S := Unit) (fun _ => some (.int (zI (zB (decide (n < 120)))))) (fun _ => True) (fun _ => T2 dA tt ss (if n < 120 then n + 1 else n) (if n < 120 then sx_put tx n z else tx)) := by
  refine hv_of (cc := cX7_takes) (maxL := 2) (ret := (some .boolean)) (own := RX7) rfl (by decide) rfl (Nat.le_of_ble_eq_true rfl) ?_
  intro p e s m args below meth c C M
  refine hv_lveq (lv' := [(0, .ref tt), (1, .int (zI (z)))]) rfl ?_
  refine hv_aload_n C dX7_takes_0 0 rfl ?_
  refine hv_get C dX7_takes_1 (fun w h => hw_c (tw_u_7 w h)) 0 (ci := 5) rfl rfl 1 (by decide) (hw_c tw_f_RX7_15) rfl ?_
  refine hv_if_lt C dX7_takes_4 (tgt := 19) (by decide) (zI_lt0 (by omega)) (fun hc4 => ?_) (fun hc4 => ?_)
  · exfalso; omega
  · refine hv_aload_n C dX7_takes_7 0 rfl ?_
    refine hv_get C dX7_takes_8 (fun w h => hw_c (tw_u_7 w h)) 0 (ci := 5) rfl rfl 1 (by decide) (hw_c tw_f_RX7_15) rfl ?_
    refine hv_aload_n C dX7_takes_11 0 rfl ?_
    refine hv_get C dX7_takes_12 (fun w h => hw_c (tw_u_7 w h)) 0 (ci := 5) rfl rfl 0 (by decide) (hw_c tw_f_RX7_9) rfl ?_
    refine hv_alen C 2 dX7_takes_15 1 rfl rfl (v := zI (120)) (rfl) ?_
    refine hv_icmp_lt C dX7_takes_16 (tgt := 21) (by decide) (zI_lt (by omega)) (fun hc16 => ?_) (fun hc16 => ?_)
    · refine hv_aload_n C dX7_takes_21 0 rfl ?_
      refine hv_get C dX7_takes_22 (fun w h => hw_c (tw_u_7 w h)) 0 (ci := 5) rfl rfl 0 (by decide) (hw_c tw_f_RX7_9) rfl ?_
      refine hv_aload_n C dX7_takes_25 0 rfl ?_
      refine hv_get C dX7_takes_26 (fun w h => hw_c (tw_u_7 w h)) 0 (ci := 5) rfl rfl 1 (by decide) (hw_c tw_f_RX7_15) rfl ?_
      refine hv_iload_n C dX7_takes_29 1 rfl ?_
      refine hv_cast C dX7_takes_30 1 rfl (n) (zI_nat _) (by omega) (by omega) (y := zI z) (by exact sx_chr (by omega)) ?_
      refine hv_weq (ws' := [(tt, .inr (5, [.ref ss, .int (zI ((n : Int)))])), (ss, .inl (dA 2, 120, .inl (fun i => zI (sx_put tx n z i))))]) (by rw [show upd (fun i => zI (tx i)) n (zI z) = fun i => zI (sx_put tx n z i) from sx_put_upd tx n z]; rfl) ?_
      refine hv_aload_n C dX7_takes_31 0 rfl ?_
      refine hv_dup C dX7_takes_32 rfl ?_
      refine hv_get C dX7_takes_33 (fun w h => hw_c (tw_u_7 w h)) 0 (ci := 5) rfl rfl 1 (by decide) (hw_c tw_f_RX7_15) rfl ?_
      refine hv_iconst C dX7_takes_36 (v := zI (1)) rfl ?_
      refine hv_iadd C dX7_takes_37 (z := zI (((n + 1 : Nat) : Int))) ((zI_add _ _).trans (zI_c (by omega))) ?_
      refine hv_put C dX7_takes_38 (fun w h => hw_c (tw_u_7 w h)) tyX7 tyX7_ok nmX7 0 (ci := 5) (ty := .int) rfl rfl 1 (by decide) (hw_c tw_f_RX7_15) rfl rfl rfl rfl (Nat.le_of_ble_eq_true rfl) ?_
      refine hv_weq (ws' := [(tt, .inr (5, [.ref ss, .int (zI (((n + 1 : Nat) : Int)))])), (ss, .inl (dA 2, 120, .inl (fun i => zI (sx_put tx n z i))))]) rfl ?_
      refine hv_iconst C dX7_takes_41 (v := zI (1)) rfl ?_
      exact hv_iret C M dX7_takes_42 rfl zB_n1 () trivial (hv_rv (zB_T (by omega))) [] (List.Perm.of_eq (by first | (rw [if_pos (by omega), if_pos (by omega)]; rfl) | (rw [if_neg (by omega), if_neg (by omega)]; rfl))) (Nat.le_refl _) (Nat.le_refl _)
    · refine hv_iconst C dX7_takes_19 (v := zI (0)) rfl ?_
      exact hv_iret C M dX7_takes_20 rfl zB_n2 () trivial (hv_rv (zB_F (by omega))) [] (List.Perm.of_eq (by first | (rw [if_pos (by omega), if_pos (by omega)]; rfl) | (rw [if_neg (by omega), if_neg (by omega)]; rfl))) (Nat.le_refl _) (Nat.le_refl _)

set_option maxHeartbeats 4000000 in
set_option maxRecDepth 100000 in
theorem k_X7_at (l : Launch) (D : va_G) (dA : Nat → ClassId) (tt ss n : Nat) (tx : Nat → Int) (hn : n ≤ 120) (hr : sx_rg tx) (z : Int) (hz : -1000 ≤ z ∧ z < 1000) : hv_Ct l yX7_at (hw_W yX7_at cX7_at 2 (some .int)) 0 D dA [.ref tt, .int (zI (z))] ([(tt, .inr (5, [.ref ss, .int (zI ((n : Int)))])), (ss, .inl (dA 2, 120, .inl (fun i => zI (tx i))))]) 0 0 (S := Unit) (fun _ => some (.int (zI (sx_at n tx z)))) (fun _ => True) (fun _ => [(tt, .inr (5, [.ref ss, .int (zI ((n : Int)))])), (ss, .inl (dA 2, 120, .inl (fun i => zI (tx i))))]) := by
  refine hv_of (cc := cX7_at) (maxL := 2) (ret := (some .int)) (own := RX7) rfl (by decide) rfl (Nat.le_of_ble_eq_true rfl) ?_
  intro p e s m args below meth c C M
  refine hv_lveq (lv' := [(0, .ref tt), (1, .int (zI (z)))]) rfl ?_
  refine hv_iload_n C dX7_at_0 1 rfl ?_
  refine hv_if_lt C dX7_at_1 (tgt := 30) (by decide) (zI_lt0 (by omega)) (fun hc1 => ?_) (fun hc1 => ?_)
  · refine hv_iconst C dX7_at_30 (v := zI (-1)) rfl ?_
    exact hv_iret C M dX7_at_31 rfl rfl () trivial (hv_rv (sx_at_out (by omega))) [] (List.Perm.of_eq (by first | rfl | exact (List.append_nil _).symm)) (Nat.le_refl _) (Nat.le_refl _)
  · refine hv_iload_n C dX7_at_4 1 rfl ?_
    refine hv_aload_n C dX7_at_5 0 rfl ?_
    refine hv_get C dX7_at_6 (fun w h => hw_c (tw_u_7 w h)) 0 (ci := 5) rfl rfl 1 (by decide) (hw_c tw_f_RX7_15) rfl ?_
    refine hv_icmp_ge C dX7_at_9 (tgt := 30) (by decide) (zI_le (by omega)) (fun hc9 => ?_) (fun hc9 => ?_)
    · refine hv_iconst C dX7_at_30 (v := zI (-1)) rfl ?_
      exact hv_iret C M dX7_at_31 rfl rfl () trivial (hv_rv (sx_at_out (by omega))) [] (List.Perm.of_eq (by first | rfl | exact (List.append_nil _).symm)) (Nat.le_refl _) (Nat.le_refl _)
    · refine hv_iload_n C dX7_at_12 1 rfl ?_
      refine hv_aload_n C dX7_at_13 0 rfl ?_
      refine hv_get C dX7_at_14 (fun w h => hw_c (tw_u_7 w h)) 0 (ci := 5) rfl rfl 0 (by decide) (hw_c tw_f_RX7_9) rfl ?_
      refine hv_alen C 2 dX7_at_17 1 rfl rfl (v := zI (120)) (rfl) ?_
      refine hv_icmp_ge C dX7_at_18 (tgt := 30) (by decide) (zI_le (by omega)) (fun hc18 => ?_) (fun hc18 => ?_)
      · exfalso; omega
      · refine hv_aload_n C dX7_at_21 0 rfl ?_
        refine hv_get C dX7_at_22 (fun w h => hw_c (tw_u_7 w h)) 0 (ci := 5) rfl rfl 0 (by decide) (hw_c tw_f_RX7_9) rfl ?_
        refine hv_iload_n C dX7_at_25 1 rfl ?_
        refine hv_cald C dX7_at_26 1 rfl (z.toNat) (zI_ix (by omega)) (by omega) (by omega) (v := (zI (tx z.toNat))) rfl ?_
        refine hv_goto C dX7_at_27 (tgt := 31) (by decide) ?_
        exact hv_iret C M dX7_at_31 rfl rfl () trivial (hv_rv (sx_at_in (by omega))) [] (List.Perm.of_eq (by first | rfl | exact (List.append_nil _).symm)) (Nat.le_refl _) (Nat.le_refl _)

set_option maxHeartbeats 4000000 in
set_option maxRecDepth 100000 in
theorem k_X7_digit (l : Launch) (D : va_G) (dA : Nat → ClassId) (tt ss n : Nat) (tx : Nat → Int) (hn : n ≤ 120) (hr : sx_rg tx) (z : Int) (hz : -1000 ≤ z ∧ z < 1000) : hv_Ct l yX7_digit (hw_W yX7_digit cX7_digit 2 (some .int)) 1 D dA [.ref tt, .int (zI (z))] ([(tt, .inr (5, [.ref ss, .int (zI ((n : Int)))])), (ss, .inl (dA 2, 120, .inl (fun i => zI (tx i))))]) 0 0 (S := Unit) (fun _ => some (.int (zI (sx_at n tx z - 48)))) (fun _ => True) (fun _ => [(tt, .inr (5, [.ref ss, .int (zI ((n : Int)))])), (ss, .inl (dA 2, 120, .inl (fun i => zI (tx i))))]) := by
  refine hv_of (cc := cX7_digit) (maxL := 2) (ret := (some .int)) (own := RX7) rfl (by decide) rfl (Nat.le_of_ble_eq_true rfl) ?_
  intro p e s m args below meth c C M
  refine hv_lveq (lv' := [(0, .ref tt), (1, .int (zI (z)))]) rfl ?_
  refine hv_aload_n C dX7_digit_0 0 rfl ?_
  refine hv_iload_n C dX7_digit_1 1 rfl ?_
  refine hv_callV (As := [.int (zI (z))]) (rest := []) (wc := [(tt, .inr (5, [.ref ss, .int (zI ((n : Int)))])), (ss, .inl (dA 2, 120, .inl (fun i => zI (tx i))))]) (wr := []) C (k_X7_at l D dA tt ss n tx hn hr (z) (by omega)) (cwV 1 C.1.2.2.2.2 (hw_V tw_m_RX7_19 tw_i_X7_at tw_s_X7_at tw_n_RX7 tw_k_X7_at) rfl rfl rfl (by decide +kernel) ⟨Nat.le_of_ble_eq_true rfl, Nat.le_of_ble_eq_true rfl⟩) (hv_pm [0, 0] rfl) rfl 0 5 rfl rfl rfl (Nat.le_of_ble_eq_true rfl) dX7_digit_2 ⟨Nat.le_of_ble_eq_true rfl, Nat.le_of_ble_eq_true rfl⟩ (fun _ _ => ?_)
  have hat2 := sx_at_ran (n := n) hr (z)
  refine hv_eqst (st' := [.int (zI (sx_at n tx (z)))]) rfl ?_
  refine hv_weq (ws' := [(tt, .inr (5, [.ref ss, .int (zI ((n : Int)))])), (ss, .inl (dA 2, 120, .inl (fun i => zI (tx i))))]) (rfl) ?_
  refine hv_bipush C dX7_digit_5 (v := zI (48)) (by decide +kernel) ?_
  refine hv_isub C dX7_digit_7 (zI_sub _ _) ?_
  exact hv_iret C M dX7_digit_8 rfl rfl () trivial (hv_rv (by omega)) [] (List.Perm.of_eq (by first | rfl | exact (List.append_nil _).symm)) (Nat.le_refl _) (Nat.le_refl _)

set_option maxHeartbeats 4000000 in
set_option maxRecDepth 100000 in
theorem k_X7_isBetween (l : Launch) (D : va_G) (dA : Nat → ClassId) (z a b : Int) (hz : -1000 ≤ z ∧ z < 1000) (ha : 0 ≤ a ∧ a < 1000) (hb : 0 ≤ b ∧ b < 1000) : hv_Ct l yX7_isBetween (hw_W yX7_isBetween cX7_isBetween 3 (some .boolean)) 0 D dA [.int (zI (z)), .int (zI (a)), .int (zI (b))] ([]) 0 0 (S := Unit) (fun _ => some (.int (zI (zB (decide (a ≤ z ∧ z ≤ b)))))) (fun _ => True) (fun _ => []) := by
  refine hv_of (cc := cX7_isBetween) (maxL := 3) (ret := (some .boolean)) (own := RX7) rfl (by decide) rfl (Nat.le_of_ble_eq_true rfl) ?_
  intro p e s m args below meth c C M
  refine hv_lveq (lv' := [(0, .int (zI (z))), (1, .int (zI (a))), (2, .int (zI (b)))]) rfl ?_
  refine hv_iload_n C dX7_isBetween_0 0 rfl ?_
  refine hv_iload_n C dX7_isBetween_1 1 rfl ?_
  refine hv_icmp_lt C dX7_isBetween_2 (tgt := 14) (by decide) (zI_lt (by omega)) (fun hc2 => ?_) (fun hc2 => ?_)
  · refine hv_iconst C dX7_isBetween_14 (v := zI (0)) rfl ?_
    exact hv_iret C M dX7_isBetween_15 rfl zB_n2 () trivial (hv_rv (zB_F (by omega))) [] (List.Perm.of_eq (by first | rfl | exact (List.append_nil _).symm)) (Nat.le_refl _) (Nat.le_refl _)
  · refine hv_iload_n C dX7_isBetween_5 0 rfl ?_
    refine hv_iload_n C dX7_isBetween_6 2 rfl ?_
    refine hv_icmp_gt C dX7_isBetween_7 (tgt := 14) (by decide) (zI_lt (by omega)) (fun hc7 => ?_) (fun hc7 => ?_)
    · refine hv_iconst C dX7_isBetween_14 (v := zI (0)) rfl ?_
      exact hv_iret C M dX7_isBetween_15 rfl zB_n2 () trivial (hv_rv (zB_F (by omega))) [] (List.Perm.of_eq (by first | rfl | exact (List.append_nil _).symm)) (Nat.le_refl _) (Nat.le_refl _)
    · refine hv_iconst C dX7_isBetween_10 (v := zI (1)) rfl ?_
      refine hv_goto C dX7_isBetween_11 (tgt := 15) (by decide) ?_
      exact hv_iret C M dX7_isBetween_15 rfl zB_n1 () trivial (hv_rv (zB_T (by omega))) [] (List.Perm.of_eq (by first | rfl | exact (List.append_nil _).symm)) (Nat.le_refl _) (Nat.le_refl _)

set_option maxHeartbeats 4000000 in
set_option maxRecDepth 100000 in
theorem k_X7_hasDigit (l : Launch) (D : va_G) (dA : Nat → ClassId) (tt ss n : Nat) (tx : Nat → Int) (hn : n ≤ 120) (hr : sx_rg tx) (z : Int) (hz : -1000 ≤ z ∧ z < 1000) : hv_Ct l yX7_hasDigit (hw_W yX7_hasDigit cX7_hasDigit 2 (some .boolean)) 1 D dA [.ref tt, .int (zI (z))] ([(tt, .inr (5, [.ref ss, .int (zI ((n : Int)))])), (ss, .inl (dA 2, 120, .inl (fun i => zI (tx i))))]) 0 0 (S := Unit) (fun _ => some (.int (zI (zB (decide (48 ≤ sx_at n tx z ∧ sx_at n tx z ≤ 57)))))) (fun _ => True) (fun _ => [(tt, .inr (5, [.ref ss, .int (zI ((n : Int)))])), (ss, .inl (dA 2, 120, .inl (fun i => zI (tx i))))]) := by
  refine hv_of (cc := cX7_hasDigit) (maxL := 2) (ret := (some .boolean)) (own := RX7) rfl (by decide) rfl (Nat.le_of_ble_eq_true rfl) ?_
  intro p e s m args below meth c C M
  refine hv_lveq (lv' := [(0, .ref tt), (1, .int (zI (z)))]) rfl ?_
  refine hv_aload_n C dX7_hasDigit_0 0 rfl ?_
  refine hv_iload_n C dX7_hasDigit_1 1 rfl ?_
  refine hv_callV (As := [.int (zI (z))]) (rest := []) (wc := [(tt, .inr (5, [.ref ss, .int (zI ((n : Int)))])), (ss, .inl (dA 2, 120, .inl (fun i => zI (tx i))))]) (wr := []) C (k_X7_at l D dA tt ss n tx hn hr (z) (by omega)) (cwV 1 C.1.2.2.2.2 (hw_V tw_m_RX7_19 tw_i_X7_at tw_s_X7_at tw_n_RX7 tw_k_X7_at) rfl rfl rfl (by decide +kernel) ⟨Nat.le_of_ble_eq_true rfl, Nat.le_of_ble_eq_true rfl⟩) (hv_pm [0, 0] rfl) rfl 0 5 rfl rfl rfl (Nat.le_of_ble_eq_true rfl) dX7_hasDigit_2 ⟨Nat.le_of_ble_eq_true rfl, Nat.le_of_ble_eq_true rfl⟩ (fun _ _ => ?_)
  have hat2 := sx_at_ran (n := n) hr (z)
  refine hv_eqst (st' := [.int (zI (sx_at n tx (z)))]) rfl ?_
  refine hv_weq (ws' := [(tt, .inr (5, [.ref ss, .int (zI ((n : Int)))])), (ss, .inl (dA 2, 120, .inl (fun i => zI (tx i))))]) (rfl) ?_
  refine hv_bipush C dX7_hasDigit_5 (v := zI (48)) (by decide +kernel) ?_
  refine hv_bipush C dX7_hasDigit_7 (v := zI (57)) (by decide +kernel) ?_
  refine hv_callS (As := [.int (zI (sx_at n tx (z))), .int (zI (48)), .int (zI (57))]) (rest := []) (wc := []) (wr := [(tt, .inr (5, [.ref ss, .int (zI ((n : Int)))])), (ss, .inl (dA 2, 120, .inl (fun i => zI (tx i))))]) C (k_X7_isBetween l D dA (sx_at n tx (z)) (48) (57) (by omega) (by omega) (by omega)) (va_cwS 3 C.1.2.2.2.2 (hw_S tw_m_RX7_23 tw_t_X7_isBetween tw_n_RX7 tw_k_X7_isBetween) rfl rfl rfl (by decide +kernel) ⟨Nat.le_of_ble_eq_true rfl, Nat.le_of_ble_eq_true rfl⟩) (hv_pm [] rfl) rfl rfl (Nat.le_of_ble_eq_true rfl) dX7_hasDigit_9 ⟨Nat.le_of_ble_eq_true rfl, Nat.le_of_ble_eq_true rfl⟩ (fun _ _ => ?_)
  refine hv_eqst (st' := [.int (zI (zB (decide (48 ≤ sx_at n tx (z) ∧ sx_at n tx (z) ≤ 57))))]) rfl ?_
  refine hv_weq (ws' := [(tt, .inr (5, [.ref ss, .int (zI ((n : Int)))])), (ss, .inl (dA 2, 120, .inl (fun i => zI (tx i))))]) (rfl) ?_
  exact hv_iret C M dX7_hasDigit_12 rfl (zB_n _) () trivial rfl [] (List.Perm.of_eq (by first | rfl | exact (List.append_nil _).symm)) (Nat.le_refl _) (Nat.le_refl _)

set_option maxHeartbeats 4000000 in
set_option maxRecDepth 100000 in
theorem k_X7_behindStems (l : Launch) (D : va_G) (dA : Nat → ClassId) (tt ss n : Nat) (tx : Nat → Int) (hn : n ≤ 120) (hr : sx_rg tx) : hv_Ct l yX7_behindStems (hw_W yX7_behindStems cX7_behindStems 2 (some .int)) 1 D dA [.ref tt] ([(tt, .inr (5, [.ref ss, .int (zI ((n : Int)))])), (ss, .inl (dA 2, 120, .inl (fun i => zI (tx i))))]) 0 0 (S := Unit) (fun _ => some (.int (zI (sx_bs n tx : Int)))) (fun _ => True) (fun _ => [(tt, .inr (5, [.ref ss, .int (zI ((n : Int)))])), (ss, .inl (dA 2, 120, .inl (fun i => zI (tx i))))]) := by
  refine hv_of (cc := cX7_behindStems) (maxL := 2) (ret := (some .int)) (own := RX7) rfl (by decide) rfl (Nat.le_of_ble_eq_true rfl) ?_
  intro p e s m args below meth c C M
  refine hv_lveq (lv' := [(0, .ref tt)]) rfl ?_
  refine hv_iconst C dX7_behindStems_0 (v := zI (1)) rfl ?_
  refine hv_istore_n C dX7_behindStems_1 (lw := [(1, .int (zI (1))), (0, .ref tt)]) (by decide) rfl ?_
  refine hv_loop (σ := Nat) (fun n9 x => x + n9 = 7 ∧ 1 ≤ x ∧ sx_g n tx n9 x = sx_bs n tx) (fun x => [(tt, .inr (5, [.ref ss, .int (zI ((n : Int)))])), (ss, .inl (dA 2, 120, .inl (fun i => zI (tx i))))]) (fun x => [(1, .int (zI ((x : Int)))), (0, .ref tt)]) (fun x => []) (fun _ => 0) (fun _ => 0) (6) (1) (⟨rfl, Nat.le_refl _, rfl⟩) (⟨rfl, rfl, rfl, rfl, rfl⟩) (fun n9 x hI ih => ?_)
  obtain ⟨i, rfl⟩ : ∃ i, i = x := ⟨x, rfl⟩
  obtain ⟨hi1, hi2, hi3⟩ := hI
  refine hv_iload_n C dX7_behindStems_2 0 rfl ?_
  refine hv_bipush C dX7_behindStems_3 (v := zI (6)) (by decide +kernel) ?_
  refine hv_icmp_gt C dX7_behindStems_5 (tgt := 29) (by decide) (zI_lt (by omega)) (fun hc5 => ?_) (fun hc5 => ?_)
  · refine hv_iload_n C dX7_behindStems_29 0 rfl ?_
    exact hv_iret C M dX7_behindStems_30 rfl rfl () trivial (hv_rv (by rw [← hi3]; rcases n9 with _ | k; rfl; first | (exfalso; omega) | rw [sx_g, if_neg hc20])) [] (List.Perm.of_eq (by first | rfl | exact (List.append_nil _).symm)) (Nat.le_refl _) (Nat.le_refl _)
  · refine hv_aload_n C dX7_behindStems_8 1 rfl ?_
    refine hv_iload_n C dX7_behindStems_9 0 rfl ?_
    refine hv_callV (As := [.int (zI ((i : Int)))]) (rest := []) (wc := [(tt, .inr (5, [.ref ss, .int (zI ((n : Int)))])), (ss, .inl (dA 2, 120, .inl (fun i => zI (tx i))))]) (wr := []) C (k_X7_at l D dA tt ss n tx hn hr ((i : Int)) (by omega)) (cwV 1 C.1.2.2.2.2 (hw_V tw_m_RX7_19 tw_i_X7_at tw_s_X7_at tw_n_RX7 tw_k_X7_at) rfl rfl rfl (by decide +kernel) ⟨Nat.le_of_ble_eq_true rfl, Nat.le_of_ble_eq_true rfl⟩) (hv_pm [0, 0] rfl) rfl 0 5 rfl rfl rfl (Nat.le_of_ble_eq_true rfl) dX7_behindStems_10 ⟨Nat.le_of_ble_eq_true rfl, Nat.le_of_ble_eq_true rfl⟩ (fun _ _ => ?_)
    have hat10 := sx_at_ran (n := n) hr ((i : Int))
    refine hv_eqst (st' := [.int (zI (sx_at n tx ((i : Int))))]) rfl ?_
    refine hv_weq (ws' := [(tt, .inr (5, [.ref ss, .int (zI ((n : Int)))])), (ss, .inl (dA 2, 120, .inl (fun i => zI (tx i))))]) (rfl) ?_
    refine hv_bipush C dX7_behindStems_13 (v := zI (48)) (by decide +kernel) ?_
    refine hv_bipush C dX7_behindStems_15 (v := zI (51)) (by decide +kernel) ?_
    refine hv_callS (As := [.int (zI (sx_at n tx ((i : Int)))), .int (zI (48)), .int (zI (51))]) (rest := []) (wc := []) (wr := [(tt, .inr (5, [.ref ss, .int (zI ((n : Int)))])), (ss, .inl (dA 2, 120, .inl (fun i => zI (tx i))))]) C (k_X7_isBetween l D dA (sx_at n tx ((i : Int))) (48) (51) (by omega) (by omega) (by omega)) (va_cwS 3 C.1.2.2.2.2 (hw_S tw_m_RX7_23 tw_t_X7_isBetween tw_n_RX7 tw_k_X7_isBetween) rfl rfl rfl (by decide +kernel) ⟨Nat.le_of_ble_eq_true rfl, Nat.le_of_ble_eq_true rfl⟩) (hv_pm [] rfl) rfl rfl (Nat.le_of_ble_eq_true rfl) dX7_behindStems_17 ⟨Nat.le_of_ble_eq_true rfl, Nat.le_of_ble_eq_true rfl⟩ (fun _ _ => ?_)
    refine hv_eqst (st' := [.int (zI (zB (decide (48 ≤ sx_at n tx ((i : Int)) ∧ sx_at n tx ((i : Int)) ≤ 51))))]) rfl ?_
    refine hv_weq (ws' := [(tt, .inr (5, [.ref ss, .int (zI ((n : Int)))])), (ss, .inl (dA 2, 120, .inl (fun i => zI (tx i))))]) (rfl) ?_
    refine hv_if_eq C dX7_behindStems_20 (tgt := 29) (by decide) (P := ¬ (48 ≤ sx_at n tx (i : Int) ∧ sx_at n tx (i : Int) ≤ 51)) zB_0 (fun hc20 => ?_) (fun hc20 => ?_)
    · refine hv_iload_n C dX7_behindStems_29 0 rfl ?_
      exact hv_iret C M dX7_behindStems_30 rfl rfl () trivial (hv_rv (by rw [← hi3]; rcases n9 with _ | k; rfl; first | (exfalso; omega) | rw [sx_g, if_neg hc20])) [] (List.Perm.of_eq (by first | rfl | exact (List.append_nil _).symm)) (Nat.le_refl _) (Nat.le_refl _)
    · have hc20 := Decidable.not_not.mp hc20
      refine hv_iinc C dX7_behindStems_23 0 rfl (v := zI (((i + 1 : Nat) : Int))) ((zI_add _ _).trans (zI_c (by omega))) (by decide) (lw := [(1, .int (zI (((i + 1 : Nat) : Int)))), (0, .ref tt)]) rfl ?_
      refine hv_goto C dX7_behindStems_26 (tgt := 2) (by decide) ?_
      refine hv_lsub [0, 1] (lv' := [(1, .int (zI (((i + 1 : Nat) : Int)))), (0, .ref tt)]) rfl ?_
      obtain ⟨k, rfl⟩ : ∃ k, n9 = k + 1 := ⟨n9 - 1, by omega⟩
      exact ih k (i + 1) (by omega) ⟨by omega, by omega, by rw [← hi3, sx_g, if_pos hc20]⟩

set_option maxHeartbeats 4000000 in
set_option maxRecDepth 100000 in
theorem k_X7_stems (l : Launch) (D : va_G) (dA : Nat → ClassId) (tt ss n : Nat) (tx : Nat → Int) (hn : n ≤ 120) (hr : sx_rg tx) : hv_Ct l yX7_stems (hw_W yX7_stems cX7_stems 1 (some .int)) 2 D dA [.ref tt] ([(tt, .inr (5, [.ref ss, .int (zI ((n : Int)))])), (ss, .inl (dA 2, 120, .inl (fun i => zI (tx i))))]) 0 0 (S := Unit) (fun _ => some (.int (zI ((sx_bs n tx - 1 : Nat) : Int)))) (fun _ => True) (fun _ => [(tt, .inr (5, [.ref ss, .int (zI ((n : Int)))])), (ss, .inl (dA 2, 120, .inl (fun i => zI (tx i))))]) := by
  refine hv_of (cc := cX7_stems) (maxL := 1) (ret := (some .int)) (own := RX7) rfl (by decide) rfl (Nat.le_of_ble_eq_true rfl) ?_
  intro p e s m args below meth c C M
  refine hv_lveq (lv' := [(0, .ref tt)]) rfl ?_
  refine hv_aload_n C dX7_stems_0 0 rfl ?_
  refine hv_callV (As := []) (rest := []) (wc := [(tt, .inr (5, [.ref ss, .int (zI ((n : Int)))])), (ss, .inl (dA 2, 120, .inl (fun i => zI (tx i))))]) (wr := []) C (k_X7_behindStems l D dA tt ss n tx hn hr) (cwV 0 C.1.2.2.2.2 (hw_V tw_m_RX7_27 tw_i_X7_behindStems tw_s_X7_behindStems tw_n_RX7 tw_k_X7_behindStems) rfl rfl rfl (by decide +kernel) ⟨Nat.le_of_ble_eq_true rfl, Nat.le_of_ble_eq_true rfl⟩) (hv_pm [0, 0] rfl) rfl 0 5 rfl rfl rfl (Nat.le_of_ble_eq_true rfl) dX7_stems_1 ⟨Nat.le_of_ble_eq_true rfl, Nat.le_of_ble_eq_true rfl⟩ (fun _ _ => ?_)
  have hbs := sx_bs_ran n tx
  refine hv_eqst (st' := [.int (zI ((sx_bs n tx : Int)))]) rfl ?_
  refine hv_weq (ws' := [(tt, .inr (5, [.ref ss, .int (zI ((n : Int)))])), (ss, .inl (dA 2, 120, .inl (fun i => zI (tx i))))]) (rfl) ?_
  refine hv_iconst C dX7_stems_4 (v := zI (1)) rfl ?_
  refine hv_isub C dX7_stems_5 (z := zI (((sx_bs n tx - 1 : Nat) : Int))) ((zI_sub _ _).trans (zI_c (by omega))) ?_
  exact hv_iret C M dX7_stems_6 rfl rfl () trivial rfl [] (List.Perm.of_eq (by first | rfl | exact (List.append_nil _).symm)) (Nat.le_refl _) (Nat.le_refl _)

set_option maxHeartbeats 4000000 in
set_option maxRecDepth 100000 in
theorem k_X7_hedge (l : Launch) (D : va_G) (dA : Nat → ClassId) (tt ss n : Nat) (tx : Nat → Int) (hn : n ≤ 120) (hr : sx_rg tx) : hv_Ct l yX7_hedge (hw_W yX7_hedge cX7_hedge 3 (some .int)) 3 D dA [.ref tt] ([(tt, .inr (5, [.ref ss, .int (zI ((n : Int)))])), (ss, .inl (dA 2, 120, .inl (fun i => zI (tx i))))]) 0 0 (S := Unit) (fun _ => some (.int (zI (sx_h tx 1 (sx_bs n tx - 1) : Int)))) (fun _ => True) (fun _ => [(tt, .inr (5, [.ref ss, .int (zI ((n : Int)))])), (ss, .inl (dA 2, 120, .inl (fun i => zI (tx i))))]) := by
  refine hv_of (cc := cX7_hedge) (maxL := 3) (ret := (some .int)) (own := RX7) rfl (by decide) rfl (Nat.le_of_ble_eq_true rfl) ?_
  intro p e s m args below meth c C M
  refine hv_lveq (lv' := [(0, .ref tt)]) rfl ?_
  refine hv_iconst C dX7_hedge_0 (v := zI (0)) rfl ?_
  refine hv_istore_n C dX7_hedge_1 (lw := [(1, .int (zI (0))), (0, .ref tt)]) (by decide) rfl ?_
  refine hv_aload_n C dX7_hedge_2 1 rfl ?_
  refine hv_callV (As := []) (rest := []) (wc := [(tt, .inr (5, [.ref ss, .int (zI ((n : Int)))])), (ss, .inl (dA 2, 120, .inl (fun i => zI (tx i))))]) (wr := []) C (k_X7_stems l D dA tt ss n tx hn hr) (cwV 0 C.1.2.2.2.2 (hw_V tw_m_RX7_31 tw_i_X7_stems tw_s_X7_stems tw_n_RX7 tw_k_X7_stems) rfl rfl rfl (by decide +kernel) ⟨Nat.le_of_ble_eq_true rfl, Nat.le_of_ble_eq_true rfl⟩) (hv_pm [0, 0] rfl) rfl 0 5 rfl rfl rfl (Nat.le_of_ble_eq_true rfl) dX7_hedge_3 ⟨Nat.le_of_ble_eq_true rfl, Nat.le_of_ble_eq_true rfl⟩ (fun _ _ => ?_)
  have hbs := sx_bs_ran n tx
  refine hv_eqst (st' := [.int (zI (((sx_bs n tx - 1 : Nat) : Int)))]) rfl ?_
  refine hv_weq (ws' := [(tt, .inr (5, [.ref ss, .int (zI ((n : Int)))])), (ss, .inl (dA 2, 120, .inl (fun i => zI (tx i))))]) (rfl) ?_
  refine hv_istore_n C dX7_hedge_6 (lw := [(2, .int (zI (((sx_bs n tx - 1 : Nat) : Int)))), (1, .int (zI (0))), (0, .ref tt)]) (by decide) rfl ?_
  refine hv_loop (σ := Nat) (fun n9 x => x = n9 ∧ x ≤ sx_bs n tx - 1) (fun x => [(tt, .inr (5, [.ref ss, .int (zI ((n : Int)))])), (ss, .inl (dA 2, 120, .inl (fun i => zI (tx i))))]) (fun x => [(2, .int (zI ((x : Int)))), (1, .int (zI ((sx_h tx (x + 1) (sx_bs n tx - 1 - x) : Int)))), (0, .ref tt)]) (fun x => []) (fun _ => 0) (fun _ => 0) (sx_bs n tx - 1) (sx_bs n tx - 1) (⟨rfl, Nat.le_refl _⟩) (⟨rfl, by rw [Nat.sub_self]; rfl, rfl, rfl, rfl⟩) (fun n9 x hI ih => ?_)
  obtain ⟨i, rfl⟩ : ∃ i, i = x := ⟨x, rfl⟩
  obtain ⟨hi1, hi2⟩ := hI
  refine hv_iload_n C dX7_hedge_7 0 rfl ?_
  refine hv_if_le C dX7_hedge_8 (tgt := 27) (by decide) (zI_le0 (by omega)) (fun hc8 => ?_) (fun hc8 => ?_)
  · have hi0 : i = 0 := by omega
    subst hi0
    refine hv_iload_n C dX7_hedge_27 1 rfl ?_
    exact hv_iret C M dX7_hedge_28 rfl rfl () trivial rfl [] (List.Perm.of_eq (by first | rfl | exact (List.append_nil _).symm)) (Nat.le_refl _) (Nat.le_refl _)
  · refine hv_iconst C dX7_hedge_11 (v := zI (4)) rfl ?_
    refine hv_iload_n C dX7_hedge_12 1 rfl ?_
    refine hv_imul C dX7_hedge_13 (zI_mul _ _) ?_
    refine hv_aload_n C dX7_hedge_14 2 rfl ?_
    refine hv_iload_n C dX7_hedge_15 0 rfl ?_
    refine hv_callV (As := [.int (zI ((i : Int)))]) (rest := [.int (zI ((4) * ((sx_h tx (i + 1) (sx_bs n tx - 1 - i) : Int))))]) (wc := [(tt, .inr (5, [.ref ss, .int (zI ((n : Int)))])), (ss, .inl (dA 2, 120, .inl (fun i => zI (tx i))))]) (wr := []) C (k_X7_digit l D dA tt ss n tx hn hr ((i : Int)) (by omega)) (cwV 1 C.1.2.2.2.2 (hw_V tw_m_RX7_34 tw_i_X7_digit tw_s_X7_digit tw_n_RX7 tw_k_X7_digit) rfl rfl rfl (by decide +kernel) ⟨Nat.le_of_ble_eq_true rfl, Nat.le_of_ble_eq_true rfl⟩) (hv_pm [0, 0] rfl) rfl 0 5 rfl rfl rfl (Nat.le_of_ble_eq_true rfl) dX7_hedge_16 ⟨Nat.le_of_ble_eq_true rfl, Nat.le_of_ble_eq_true rfl⟩ (fun _ _ => ?_)
    have hat16 := sx_at_ran (n := n) hr ((i : Int))
    refine hv_eqst (st' := [.int (zI (sx_at n tx ((i : Int)) - 48)), .int (zI ((4) * ((sx_h tx (i + 1) (sx_bs n tx - 1 - i) : Int))))]) rfl ?_
    refine hv_weq (ws' := [(tt, .inr (5, [.ref ss, .int (zI ((n : Int)))])), (ss, .inl (dA 2, 120, .inl (fun i => zI (tx i))))]) (rfl) ?_
    have hdg := sx_g_dig n tx 6 1 i (by omega) (by unfold sx_bs at hi2 hbs; omega)
    have hat := sx_at_in (n := n) (tx := tx) (z := (i : Int)) (by unfold sx_at at hdg; split at hdg <;> omega)
    rw [Int.toNat_natCast] at hat
    refine hv_iadd C dX7_hedge_19 (z := zI ((sx_h tx (i - 1 + 1) (sx_bs n tx - 1 - (i - 1)) : Int))) ((zI_add _ _).trans (zI_c (by rw [show i - 1 + 1 = i by omega, show sx_bs n tx - 1 - (i - 1) = (sx_bs n tx - 1 - i) + 1 by omega, sx_h]; omega))) ?_
    refine hv_istore_n C dX7_hedge_20 (lw := [(1, .int (zI ((sx_h tx (i - 1 + 1) (sx_bs n tx - 1 - (i - 1)) : Int)))), (2, .int (zI ((i : Int)))), (0, .ref tt)]) (by decide) rfl ?_
    refine hv_iinc C dX7_hedge_21 1 rfl (v := zI (((i - 1 : Nat) : Int))) ((zI_add _ _).trans (zI_c (by omega))) (by decide) (lw := [(2, .int (zI (((i - 1 : Nat) : Int)))), (1, .int (zI ((sx_h tx (i - 1 + 1) (sx_bs n tx - 1 - (i - 1)) : Int)))), (0, .ref tt)]) rfl ?_
    refine hv_goto C dX7_hedge_24 (tgt := 7) (by decide) ?_
    refine hv_lsub [0, 1, 2] (lv' := [(2, .int (zI (((i - 1 : Nat) : Int)))), (1, .int (zI ((sx_h tx (i - 1 + 1) (sx_bs n tx - 1 - (i - 1)) : Int)))), (0, .ref tt)]) rfl ?_
    exact ih (i - 1) (i - 1) (by omega) ⟨rfl, by omega⟩

set_option maxHeartbeats 4000000 in
set_option maxRecDepth 100000 in
theorem k_X7_isCommand (l : Launch) (D : va_G) (dA : Nat → ClassId) (z : Int) (hz : -1000 ≤ z ∧ z < 1000) : hv_Ct l yX7_isCommand (hw_W yX7_isCommand cX7_isCommand 1 (some .boolean)) 0 D dA [.int (zI (z))] ([]) 0 0 (S := Unit) (fun _ => some (.int (zI (zB (sx_cmd z))))) (fun _ => True) (fun _ => []) := by
  refine hv_of (cc := cX7_isCommand) (maxL := 1) (ret := (some .boolean)) (own := RX7) rfl (by decide) rfl (Nat.le_of_ble_eq_true rfl) ?_
  intro p e s m args below meth c C M
  refine hv_lveq (lv' := [(0, .int (zI (z)))]) rfl ?_
  refine hv_iload_n C dX7_isCommand_0 0 rfl ?_
  refine hv_bipush C dX7_isCommand_1 (v := zI (99)) (by decide +kernel) ?_
  refine hv_icmp_eq C dX7_isCommand_3 (tgt := 30) (by decide) (zI_eq (by omega)) (fun hc3 => ?_) (fun hc3 => ?_)
  · refine hv_iconst C dX7_isCommand_30 (v := zI (1)) rfl ?_
    refine hv_goto C dX7_isCommand_31 (tgt := 35) (by decide) ?_
    exact hv_iret C M dX7_isCommand_35 rfl zB_n1 () trivial (hv_rv (by unfold sx_cmd; rw [decide_eq_true (by omega)]; rfl)) [] (List.Perm.of_eq (by first | rfl | exact (List.append_nil _).symm)) (Nat.le_refl _) (Nat.le_refl _)
  · refine hv_iload_n C dX7_isCommand_6 0 rfl ?_
    refine hv_bipush C dX7_isCommand_7 (v := zI (119)) (by decide +kernel) ?_
    refine hv_icmp_eq C dX7_isCommand_9 (tgt := 30) (by decide) (zI_eq (by omega)) (fun hc9 => ?_) (fun hc9 => ?_)
    · refine hv_iconst C dX7_isCommand_30 (v := zI (1)) rfl ?_
      refine hv_goto C dX7_isCommand_31 (tgt := 35) (by decide) ?_
      exact hv_iret C M dX7_isCommand_35 rfl zB_n1 () trivial (hv_rv (by unfold sx_cmd; rw [decide_eq_true (by omega)]; rfl)) [] (List.Perm.of_eq (by first | rfl | exact (List.append_nil _).symm)) (Nat.le_refl _) (Nat.le_refl _)
    · refine hv_iload_n C dX7_isCommand_12 0 rfl ?_
      refine hv_bipush C dX7_isCommand_13 (v := zI (103)) (by decide +kernel) ?_
      refine hv_icmp_eq C dX7_isCommand_15 (tgt := 30) (by decide) (zI_eq (by omega)) (fun hc15 => ?_) (fun hc15 => ?_)
      · refine hv_iconst C dX7_isCommand_30 (v := zI (1)) rfl ?_
        refine hv_goto C dX7_isCommand_31 (tgt := 35) (by decide) ?_
        exact hv_iret C M dX7_isCommand_35 rfl zB_n1 () trivial (hv_rv (by unfold sx_cmd; rw [decide_eq_true (by omega)]; rfl)) [] (List.Perm.of_eq (by first | rfl | exact (List.append_nil _).symm)) (Nat.le_refl _) (Nat.le_refl _)
      · refine hv_iload_n C dX7_isCommand_18 0 rfl ?_
        refine hv_bipush C dX7_isCommand_19 (v := zI (112)) (by decide +kernel) ?_
        refine hv_icmp_eq C dX7_isCommand_21 (tgt := 30) (by decide) (zI_eq (by omega)) (fun hc21 => ?_) (fun hc21 => ?_)
        · refine hv_iconst C dX7_isCommand_30 (v := zI (1)) rfl ?_
          refine hv_goto C dX7_isCommand_31 (tgt := 35) (by decide) ?_
          exact hv_iret C M dX7_isCommand_35 rfl zB_n1 () trivial (hv_rv (by unfold sx_cmd; rw [decide_eq_true (by omega)]; rfl)) [] (List.Perm.of_eq (by first | rfl | exact (List.append_nil _).symm)) (Nat.le_refl _) (Nat.le_refl _)
        · refine hv_iload_n C dX7_isCommand_24 0 rfl ?_
          refine hv_bipush C dX7_isCommand_25 (v := zI (98)) (by decide +kernel) ?_
          refine hv_icmp_ne C dX7_isCommand_27 (tgt := 34) (by decide) (zI_ne (by omega)) (fun hc27 => ?_) (fun hc27 => ?_)
          · refine hv_iconst C dX7_isCommand_34 (v := zI (0)) rfl ?_
            exact hv_iret C M dX7_isCommand_35 rfl zB_n2 () trivial (hv_rv (by unfold sx_cmd; rw [decide_eq_false (by omega)]; rfl)) [] (List.Perm.of_eq (by first | rfl | exact (List.append_nil _).symm)) (Nat.le_refl _) (Nat.le_refl _)
          · refine hv_iconst C dX7_isCommand_30 (v := zI (1)) rfl ?_
            refine hv_goto C dX7_isCommand_31 (tgt := 35) (by decide) ?_
            exact hv_iret C M dX7_isCommand_35 rfl zB_n1 () trivial (hv_rv (by unfold sx_cmd; rw [decide_eq_true (by omega)]; rfl)) [] (List.Perm.of_eq (by first | rfl | exact (List.append_nil _).symm)) (Nat.le_refl _) (Nat.le_refl _)

set_option maxHeartbeats 4000000 in
set_option maxRecDepth 100000 in
theorem k_X7_digitsBehind (l : Launch) (D : va_G) (dA : Nat → ClassId) (z : Int) (hz : -1000 ≤ z ∧ z < 1000) : hv_Ct l yX7_digitsBehind (hw_W yX7_digitsBehind cX7_digitsBehind 1 (some .int)) 0 D dA [.int (zI (z))] ([]) 0 0 (S := Unit) (fun _ => some (.int (zI (sx_len z : Int)))) (fun _ => True) (fun _ => []) := by
  refine hv_of (cc := cX7_digitsBehind) (maxL := 1) (ret := (some .int)) (own := RX7) rfl (by decide) rfl (Nat.le_of_ble_eq_true rfl) ?_
  intro p e s m args below meth c C M
  refine hv_lveq (lv' := [(0, .int (zI (z)))]) rfl ?_
  refine hv_iload_n C dX7_digitsBehind_0 0 rfl ?_
  refine hv_bipush C dX7_digitsBehind_1 (v := zI (99)) (by decide +kernel) ?_
  refine hv_icmp_ne C dX7_digitsBehind_3 (tgt := 8) (by decide) (zI_ne (by omega)) (fun hc3 => ?_) (fun hc3 => ?_)
  · refine hv_iload_n C dX7_digitsBehind_8 0 rfl ?_
    refine hv_bipush C dX7_digitsBehind_9 (v := zI (119)) (by decide +kernel) ?_
    refine hv_icmp_eq C dX7_digitsBehind_11 (tgt := 20) (by decide) (zI_eq (by omega)) (fun hc11 => ?_) (fun hc11 => ?_)
    · refine hv_iconst C dX7_digitsBehind_20 (v := zI (1)) rfl ?_
      refine hv_goto C dX7_digitsBehind_21 (tgt := 25) (by decide) ?_
      exact hv_iret C M dX7_digitsBehind_25 rfl rfl () trivial (hv_rv (by unfold sx_len; rw [if_neg (by omega), if_pos (by omega)]; rfl)) [] (List.Perm.of_eq (by first | rfl | exact (List.append_nil _).symm)) (Nat.le_refl _) (Nat.le_refl _)
    · refine hv_iload_n C dX7_digitsBehind_14 0 rfl ?_
      refine hv_bipush C dX7_digitsBehind_15 (v := zI (103)) (by decide +kernel) ?_
      refine hv_icmp_ne C dX7_digitsBehind_17 (tgt := 24) (by decide) (zI_ne (by omega)) (fun hc17 => ?_) (fun hc17 => ?_)
      · refine hv_iconst C dX7_digitsBehind_24 (v := zI (0)) rfl ?_
        exact hv_iret C M dX7_digitsBehind_25 rfl rfl () trivial (hv_rv (by unfold sx_len; rw [if_neg (by omega), if_neg (by omega)]; rfl)) [] (List.Perm.of_eq (by first | rfl | exact (List.append_nil _).symm)) (Nat.le_refl _) (Nat.le_refl _)
      · refine hv_iconst C dX7_digitsBehind_20 (v := zI (1)) rfl ?_
        refine hv_goto C dX7_digitsBehind_21 (tgt := 25) (by decide) ?_
        exact hv_iret C M dX7_digitsBehind_25 rfl rfl () trivial (hv_rv (by unfold sx_len; rw [if_neg (by omega), if_pos (by omega)]; rfl)) [] (List.Perm.of_eq (by first | rfl | exact (List.append_nil _).symm)) (Nat.le_refl _) (Nat.le_refl _)
  · refine hv_iconst C dX7_digitsBehind_6 (v := zI (3)) rfl ?_
    exact hv_iret C M dX7_digitsBehind_7 rfl rfl () trivial (hv_rv (by unfold sx_len; rw [if_pos (by omega)]; rfl)) [] (List.Perm.of_eq (by first | rfl | exact (List.append_nil _).symm)) (Nat.le_refl _) (Nat.le_refl _)

set_option maxHeartbeats 4000000 in
set_option maxRecDepth 100000 in
theorem k_X7_allowsDigit (l : Launch) (D : va_G) (dA : Nat → ClassId) (c9 p9 z : Int) (hc : -1000 ≤ c9 ∧ c9 < 1000) (hp : -1000 ≤ p9 ∧ p9 < 1000) (hz : -1000 ≤ z ∧ z < 1000) : hv_Ct l yX7_allowsDigit (hw_W yX7_allowsDigit cX7_allowsDigit 4 (some .boolean)) 1 D dA [.int (zI (c9)), .int (zI (p9)), .int (zI (z))] ([]) 0 0 (S := Unit) (fun _ => some (.int (zI (zB (sx_al c9 p9 z))))) (fun _ => True) (fun _ => []) := by
  refine hv_of (cc := cX7_allowsDigit) (maxL := 4) (ret := (some .boolean)) (own := RX7) rfl (by decide) rfl (Nat.le_of_ble_eq_true rfl) ?_
  intro p e s m args below meth c C M
  refine hv_lveq (lv' := [(0, .int (zI (c9))), (1, .int (zI (p9))), (2, .int (zI (z)))]) rfl ?_
  refine hv_iload_n C dX7_allowsDigit_0 0 rfl ?_
  refine hv_bipush C dX7_allowsDigit_1 (v := zI (103)) (by decide +kernel) ?_
  refine hv_icmp_ne C dX7_allowsDigit_3 (tgt := 15) (by decide) (zI_ne (by omega)) (fun hc3 => ?_) (fun hc3 => ?_)
  · refine hv_iload_n C dX7_allowsDigit_15 0 rfl ?_
    refine hv_bipush C dX7_allowsDigit_16 (v := zI (99)) (by decide +kernel) ?_
    refine hv_icmp_ne C dX7_allowsDigit_18 (tgt := 30) (by decide) (zI_ne (by omega)) (fun hc18 => ?_) (fun hc18 => ?_)
    · refine hv_iconst C dX7_allowsDigit_30 (v := zI (0)) rfl ?_
      refine hv_istore_n C dX7_allowsDigit_31 (lw := [(3, .int (zI (0))), (0, .int (zI (c9))), (1, .int (zI (p9))), (2, .int (zI (z)))]) (by decide) rfl ?_
      refine hv_iload_n C dX7_allowsDigit_32 0 rfl ?_
      refine hv_if_eq C dX7_allowsDigit_33 (tgt := 47) (by decide) (zI_eq0 (by omega)) (fun hc33 => ?_) (fun hc33 => ?_)
      · refine hv_iload_n C dX7_allowsDigit_47 3 rfl ?_
        refine hv_bipush C dX7_allowsDigit_48 (v := zI (48)) (by decide +kernel) ?_
        refine hv_bipush C dX7_allowsDigit_50 (v := zI (53)) (by decide +kernel) ?_
        refine hv_callS (As := [.int (zI (z)), .int (zI (48)), .int (zI (53))]) (rest := []) (wc := []) (wr := []) C (k_X7_isBetween l D dA (z) (48) (53) (by omega) (by omega) (by omega)) (va_cwS 3 C.1.2.2.2.2 (hw_S tw_m_RX7_23 tw_t_X7_isBetween tw_n_RX7 tw_k_X7_isBetween) rfl rfl rfl (by decide +kernel) ⟨Nat.le_of_ble_eq_true rfl, Nat.le_of_ble_eq_true rfl⟩) (hv_pm [] rfl) rfl rfl (Nat.le_of_ble_eq_true rfl) dX7_allowsDigit_52 ⟨Nat.le_of_ble_eq_true rfl, Nat.le_of_ble_eq_true rfl⟩ (fun _ _ => ?_)
        refine hv_eqst (st' := [.int (zI (zB (decide (48 ≤ z ∧ z ≤ 53))))]) rfl ?_
        refine hv_weq (ws' := []) (rfl) ?_
        exact hv_iret C M dX7_allowsDigit_55 rfl (zB_n _) () trivial (hv_rv (by unfold sx_al; rw [if_neg (by omega), if_neg (by omega)])) [] (List.Perm.of_eq (by first | rfl | exact (List.append_nil _).symm)) (Nat.le_refl _) (Nat.le_refl _)
      · exfalso; omega
    · refine hv_iload_n C dX7_allowsDigit_21 1 rfl ?_
      refine hv_iconst C dX7_allowsDigit_22 (v := zI (3)) rfl ?_
      refine hv_icmp_ne C dX7_allowsDigit_23 (tgt := 30) (by decide) (zI_ne (by omega)) (fun hc23 => ?_) (fun hc23 => ?_)
      · refine hv_iconst C dX7_allowsDigit_30 (v := zI (0)) rfl ?_
        refine hv_istore_n C dX7_allowsDigit_31 (lw := [(3, .int (zI (0))), (0, .int (zI (c9))), (1, .int (zI (p9))), (2, .int (zI (z)))]) (by decide) rfl ?_
        refine hv_iload_n C dX7_allowsDigit_32 0 rfl ?_
        refine hv_if_eq C dX7_allowsDigit_33 (tgt := 47) (by decide) (zI_eq0 (by omega)) (fun hc33 => ?_) (fun hc33 => ?_)
        · refine hv_iload_n C dX7_allowsDigit_47 3 rfl ?_
          refine hv_bipush C dX7_allowsDigit_48 (v := zI (48)) (by decide +kernel) ?_
          refine hv_bipush C dX7_allowsDigit_50 (v := zI (53)) (by decide +kernel) ?_
          refine hv_callS (As := [.int (zI (z)), .int (zI (48)), .int (zI (53))]) (rest := []) (wc := []) (wr := []) C (k_X7_isBetween l D dA (z) (48) (53) (by omega) (by omega) (by omega)) (va_cwS 3 C.1.2.2.2.2 (hw_S tw_m_RX7_23 tw_t_X7_isBetween tw_n_RX7 tw_k_X7_isBetween) rfl rfl rfl (by decide +kernel) ⟨Nat.le_of_ble_eq_true rfl, Nat.le_of_ble_eq_true rfl⟩) (hv_pm [] rfl) rfl rfl (Nat.le_of_ble_eq_true rfl) dX7_allowsDigit_52 ⟨Nat.le_of_ble_eq_true rfl, Nat.le_of_ble_eq_true rfl⟩ (fun _ _ => ?_)
          refine hv_eqst (st' := [.int (zI (zB (decide (48 ≤ z ∧ z ≤ 53))))]) rfl ?_
          refine hv_weq (ws' := []) (rfl) ?_
          exact hv_iret C M dX7_allowsDigit_55 rfl (zB_n _) () trivial (hv_rv (by unfold sx_al; rw [if_neg (by omega), if_neg (by omega)])) [] (List.Perm.of_eq (by first | rfl | exact (List.append_nil _).symm)) (Nat.le_refl _) (Nat.le_refl _)
        · exfalso; omega
      · refine hv_iconst C dX7_allowsDigit_26 (v := zI (1)) rfl ?_
        refine hv_goto C dX7_allowsDigit_27 (tgt := 31) (by decide) ?_
        refine hv_istore_n C dX7_allowsDigit_31 (lw := [(3, .int (zI (1))), (0, .int (zI (c9))), (1, .int (zI (p9))), (2, .int (zI (z)))]) (by decide) rfl ?_
        refine hv_iload_n C dX7_allowsDigit_32 0 rfl ?_
        refine hv_if_eq C dX7_allowsDigit_33 (tgt := 47) (by decide) (zI_eq0 (by omega)) (fun hc33 => ?_) (fun hc33 => ?_)
        · exfalso; omega
        · refine hv_iload_n C dX7_allowsDigit_36 3 rfl ?_
          refine hv_bipush C dX7_allowsDigit_37 (v := zI (49)) (by decide +kernel) ?_
          refine hv_bipush C dX7_allowsDigit_39 (v := zI (51)) (by decide +kernel) ?_
          refine hv_callS (As := [.int (zI (z)), .int (zI (49)), .int (zI (51))]) (rest := []) (wc := []) (wr := []) C (k_X7_isBetween l D dA (z) (49) (51) (by omega) (by omega) (by omega)) (va_cwS 3 C.1.2.2.2.2 (hw_S tw_m_RX7_23 tw_t_X7_isBetween tw_n_RX7 tw_k_X7_isBetween) rfl rfl rfl (by decide +kernel) ⟨Nat.le_of_ble_eq_true rfl, Nat.le_of_ble_eq_true rfl⟩) (hv_pm [] rfl) rfl rfl (Nat.le_of_ble_eq_true rfl) dX7_allowsDigit_41 ⟨Nat.le_of_ble_eq_true rfl, Nat.le_of_ble_eq_true rfl⟩ (fun _ _ => ?_)
          refine hv_eqst (st' := [.int (zI (zB (decide (49 ≤ z ∧ z ≤ 51))))]) rfl ?_
          refine hv_weq (ws' := []) (rfl) ?_
          refine hv_goto C dX7_allowsDigit_44 (tgt := 55) (by decide) ?_
          exact hv_iret C M dX7_allowsDigit_55 rfl (zB_n _) () trivial (hv_rv (by unfold sx_al; rw [if_neg (by omega), if_pos (by omega)])) [] (List.Perm.of_eq (by first | rfl | exact (List.append_nil _).symm)) (Nat.le_refl _) (Nat.le_refl _)
  · refine hv_iload_n C dX7_allowsDigit_6 2 rfl ?_
    refine hv_bipush C dX7_allowsDigit_7 (v := zI (48)) (by decide +kernel) ?_
    refine hv_bipush C dX7_allowsDigit_9 (v := zI (50)) (by decide +kernel) ?_
    refine hv_callS (As := [.int (zI (z)), .int (zI (48)), .int (zI (50))]) (rest := []) (wc := []) (wr := []) C (k_X7_isBetween l D dA (z) (48) (50) (by omega) (by omega) (by omega)) (va_cwS 3 C.1.2.2.2.2 (hw_S tw_m_RX7_23 tw_t_X7_isBetween tw_n_RX7 tw_k_X7_isBetween) rfl rfl rfl (by decide +kernel) ⟨Nat.le_of_ble_eq_true rfl, Nat.le_of_ble_eq_true rfl⟩) (hv_pm [] rfl) rfl rfl (Nat.le_of_ble_eq_true rfl) dX7_allowsDigit_11 ⟨Nat.le_of_ble_eq_true rfl, Nat.le_of_ble_eq_true rfl⟩ (fun _ _ => ?_)
    refine hv_eqst (st' := [.int (zI (zB (decide (48 ≤ z ∧ z ≤ 50))))]) rfl ?_
    refine hv_weq (ws' := []) (rfl) ?_
    exact hv_iret C M dX7_allowsDigit_14 rfl (zB_n _) () trivial (hv_rv (by unfold sx_al; rw [if_pos (by omega)])) [] (List.Perm.of_eq (by first | rfl | exact (List.append_nil _).symm)) (Nat.le_refl _) (Nat.le_refl _)

set_option maxHeartbeats 4000000 in
set_option maxRecDepth 100000 in
theorem k_X7_faultInCommand (l : Launch) (D : va_G) (dA : Nat → ClassId) (tt ss n : Nat) (tx : Nat → Int) (hn : n ≤ 120) (hr : sx_rg tx) {z : Int} (i : Nat) (ez : z = (i : Int)) (hi : i < 500) : hv_Ct l yX7_faultInCommand (hw_W yX7_faultInCommand cX7_faultInCommand 5 (some .int)) 2 D dA [.ref tt, .int (zI (z))] ([(tt, .inr (5, [.ref ss, .int (zI ((n : Int)))])), (ss, .inl (dA 2, 120, .inl (fun i => zI (tx i))))]) 0 0 (S := Unit) (fun _ => some (.int (zI (sx_fc n tx i)))) (fun _ => True) (fun _ => [(tt, .inr (5, [.ref ss, .int (zI ((n : Int)))])), (ss, .inl (dA 2, 120, .inl (fun i => zI (tx i))))]) := by
  subst ez
  refine hv_of (cc := cX7_faultInCommand) (maxL := 5) (ret := (some .int)) (own := RX7) rfl (by decide) rfl (Nat.le_of_ble_eq_true rfl) ?_
  intro p e s m args below meth c C M
  refine hv_lveq (lv' := [(0, .ref tt), (1, .int (zI ((i : Int))))]) rfl ?_
  refine hv_aload_n C dX7_faultInCommand_0 0 rfl ?_
  refine hv_iload_n C dX7_faultInCommand_1 1 rfl ?_
  refine hv_callV (As := [.int (zI ((i : Int)))]) (rest := []) (wc := [(tt, .inr (5, [.ref ss, .int (zI ((n : Int)))])), (ss, .inl (dA 2, 120, .inl (fun i => zI (tx i))))]) (wr := []) C (k_X7_at l D dA tt ss n tx hn hr ((i : Int)) (by omega)) (cwV 1 C.1.2.2.2.2 (hw_V tw_m_RX7_19 tw_i_X7_at tw_s_X7_at tw_n_RX7 tw_k_X7_at) rfl rfl rfl (by decide +kernel) ⟨Nat.le_of_ble_eq_true rfl, Nat.le_of_ble_eq_true rfl⟩) (hv_pm [0, 0] rfl) rfl 0 5 rfl rfl rfl (Nat.le_of_ble_eq_true rfl) dX7_faultInCommand_2 ⟨Nat.le_of_ble_eq_true rfl, Nat.le_of_ble_eq_true rfl⟩ (fun _ _ => ?_)
  have hat2 := sx_at_ran (n := n) hr ((i : Int))
  refine hv_eqst (st' := [.int (zI (sx_at n tx ((i : Int))))]) rfl ?_
  refine hv_weq (ws' := [(tt, .inr (5, [.ref ss, .int (zI ((n : Int)))])), (ss, .inl (dA 2, 120, .inl (fun i => zI (tx i))))]) (rfl) ?_
  refine hv_istore_n C dX7_faultInCommand_5 (lw := [(2, .int (zI (sx_at n tx ((i : Int))))), (0, .ref tt), (1, .int (zI ((i : Int))))]) (by decide) rfl ?_
  refine hv_iload_n C dX7_faultInCommand_6 0 rfl ?_
  refine hv_callS (As := [.int (zI (sx_at n tx ((i : Int))))]) (rest := []) (wc := []) (wr := [(tt, .inr (5, [.ref ss, .int (zI ((n : Int)))])), (ss, .inl (dA 2, 120, .inl (fun i => zI (tx i))))]) C (k_X7_isCommand l D dA (sx_at n tx ((i : Int))) (by omega)) (va_cwS 1 C.1.2.2.2.2 (hw_S tw_m_RX7_43 tw_t_X7_isCommand tw_n_RX7 tw_k_X7_isCommand) rfl rfl rfl (by decide +kernel) ⟨Nat.le_of_ble_eq_true rfl, Nat.le_of_ble_eq_true rfl⟩) (hv_pm [] rfl) rfl rfl (Nat.le_of_ble_eq_true rfl) dX7_faultInCommand_7 ⟨Nat.le_of_ble_eq_true rfl, Nat.le_of_ble_eq_true rfl⟩ (fun _ _ => ?_)
  refine hv_eqst (st' := [.int (zI (zB (sx_cmd (sx_at n tx ((i : Int))))))]) rfl ?_
  refine hv_weq (ws' := [(tt, .inr (5, [.ref ss, .int (zI ((n : Int)))])), (ss, .inl (dA 2, 120, .inl (fun i => zI (tx i))))]) (rfl) ?_
  refine hv_if_ne C dX7_faultInCommand_10 (tgt := 15) (by decide) zB_en (fun hc10 => ?_) (fun hc10 => ?_)
  · refine hv_iload_n C dX7_faultInCommand_15 0 rfl ?_
    refine hv_callS (As := [.int (zI (sx_at n tx ((i : Int))))]) (rest := []) (wc := []) (wr := [(tt, .inr (5, [.ref ss, .int (zI ((n : Int)))])), (ss, .inl (dA 2, 120, .inl (fun i => zI (tx i))))]) C (k_X7_digitsBehind l D dA (sx_at n tx ((i : Int))) (by omega)) (va_cwS 1 C.1.2.2.2.2 (hw_S tw_m_RX7_40 tw_t_X7_digitsBehind tw_n_RX7 tw_k_X7_digitsBehind) rfl rfl rfl (by decide +kernel) ⟨Nat.le_of_ble_eq_true rfl, Nat.le_of_ble_eq_true rfl⟩) (hv_pm [] rfl) rfl rfl (Nat.le_of_ble_eq_true rfl) dX7_faultInCommand_16 ⟨Nat.le_of_ble_eq_true rfl, Nat.le_of_ble_eq_true rfl⟩ (fun _ _ => ?_)
    have hle := sx_len3 (sx_at n tx ((i : Int)))
    refine hv_eqst (st' := [.int (zI ((sx_len (sx_at n tx ((i : Int))) : Int)))]) rfl ?_
    refine hv_weq (ws' := [(tt, .inr (5, [.ref ss, .int (zI ((n : Int)))])), (ss, .inl (dA 2, 120, .inl (fun i => zI (tx i))))]) (rfl) ?_
    refine hv_istore_n C dX7_faultInCommand_19 (lw := [(3, .int (zI ((sx_len (sx_at n tx ((i : Int))) : Int)))), (2, .int (zI (sx_at n tx ((i : Int))))), (0, .ref tt), (1, .int (zI ((i : Int))))]) (by decide) rfl ?_
    refine hv_iconst C dX7_faultInCommand_20 (v := zI (1)) rfl ?_
    refine hv_istore C dX7_faultInCommand_21 (lw := [(4, .int (zI (1))), (3, .int (zI ((sx_len (sx_at n tx ((i : Int))) : Int)))), (2, .int (zI (sx_at n tx ((i : Int))))), (0, .ref tt), (1, .int (zI ((i : Int))))]) (by decide) rfl ?_
    refine hv_loop (σ := Nat) (fun n9 x => x + n9 = sx_len (sx_at n tx (i : Int)) + 1 ∧ 1 ≤ x ∧ sx_fl n tx i (sx_at n tx (i : Int)) n9 x = sx_fc n tx i) (fun x => [(tt, .inr (5, [.ref ss, .int (zI ((n : Int)))])), (ss, .inl (dA 2, 120, .inl (fun i => zI (tx i))))]) (fun x => [(4, .int (zI ((x : Int)))), (3, .int (zI ((sx_len (sx_at n tx ((i : Int))) : Int)))), (2, .int (zI (sx_at n tx ((i : Int))))), (0, .ref tt), (1, .int (zI ((i : Int))))]) (fun x => []) (fun _ => 0) (fun _ => 0) (sx_len (sx_at n tx (i : Int))) (1) (⟨Nat.add_comm _ _, Nat.le_refl _, by unfold sx_fc; rw [if_pos hc10]⟩) (⟨rfl, rfl, rfl, rfl, rfl⟩) (fun n9 x hI ih => ?_)
    obtain ⟨p9, rfl⟩ : ∃ i, i = x := ⟨x, rfl⟩
    obtain ⟨hi1, hi2, hi3⟩ := hI
    refine hv_iload C dX7_faultInCommand_23 0 rfl ?_
    refine hv_iload_n C dX7_faultInCommand_25 1 rfl ?_
    refine hv_icmp_gt C dX7_faultInCommand_26 (tgt := 57) (by decide) (zI_lt (by omega)) (fun hc26 => ?_) (fun hc26 => ?_)
    · refine hv_iconst C dX7_faultInCommand_57 (v := zI (-1)) rfl ?_
      exact hv_iret C M dX7_faultInCommand_58 rfl rfl () trivial (hv_rv (by rw [← hi3]; obtain rfl : n9 = 0 := (by omega); rfl)) [] (List.Perm.of_eq (by first | rfl | exact (List.append_nil _).symm)) (Nat.le_refl _) (Nat.le_refl _)
    · refine hv_iload_n C dX7_faultInCommand_29 2 rfl ?_
      refine hv_iload C dX7_faultInCommand_30 0 rfl ?_
      refine hv_aload_n C dX7_faultInCommand_32 3 rfl ?_
      refine hv_iload_n C dX7_faultInCommand_33 4 rfl ?_
      refine hv_iload C dX7_faultInCommand_34 0 rfl ?_
      refine hv_iadd C dX7_faultInCommand_36 (z := zI (((i + p9 : Nat) : Int))) ((zI_add _ _).trans (zI_c (by omega))) ?_
      refine hv_callV (As := [.int (zI (((i + p9 : Nat) : Int)))]) (rest := [.int (zI ((p9 : Int))), .int (zI (sx_at n tx ((i : Int))))]) (wc := [(tt, .inr (5, [.ref ss, .int (zI ((n : Int)))])), (ss, .inl (dA 2, 120, .inl (fun i => zI (tx i))))]) (wr := []) C (k_X7_at l D dA tt ss n tx hn hr (((i + p9 : Nat) : Int)) (by omega)) (cwV 1 C.1.2.2.2.2 (hw_V tw_m_RX7_19 tw_i_X7_at tw_s_X7_at tw_n_RX7 tw_k_X7_at) rfl rfl rfl (by decide +kernel) ⟨Nat.le_of_ble_eq_true rfl, Nat.le_of_ble_eq_true rfl⟩) (hv_pm [0, 0] rfl) rfl 0 5 rfl rfl rfl (Nat.le_of_ble_eq_true rfl) dX7_faultInCommand_37 ⟨Nat.le_of_ble_eq_true rfl, Nat.le_of_ble_eq_true rfl⟩ (fun _ _ => ?_)
      have hat37 := sx_at_ran (n := n) hr (((i + p9 : Nat) : Int))
      refine hv_eqst (st' := [.int (zI (sx_at n tx (((i + p9 : Nat) : Int)))), .int (zI ((p9 : Int))), .int (zI (sx_at n tx ((i : Int))))]) rfl ?_
      refine hv_weq (ws' := [(tt, .inr (5, [.ref ss, .int (zI ((n : Int)))])), (ss, .inl (dA 2, 120, .inl (fun i => zI (tx i))))]) (rfl) ?_
      refine hv_callS (As := [.int (zI (sx_at n tx ((i : Int)))), .int (zI ((p9 : Int))), .int (zI (sx_at n tx (((i + p9 : Nat) : Int))))]) (rest := []) (wc := []) (wr := [(tt, .inr (5, [.ref ss, .int (zI ((n : Int)))])), (ss, .inl (dA 2, 120, .inl (fun i => zI (tx i))))]) C (k_X7_allowsDigit l D dA (sx_at n tx ((i : Int))) ((p9 : Int)) (sx_at n tx (((i + p9 : Nat) : Int))) (by omega) (by omega) (by omega)) (va_cwS 3 C.1.2.2.2.2 (hw_S tw_m_RX7_47 tw_t_X7_allowsDigit tw_n_RX7 tw_k_X7_allowsDigit) rfl rfl rfl (by decide +kernel) ⟨Nat.le_of_ble_eq_true rfl, Nat.le_of_ble_eq_true rfl⟩) (hv_pm [] rfl) rfl rfl (Nat.le_of_ble_eq_true rfl) dX7_faultInCommand_40 ⟨Nat.le_of_ble_eq_true rfl, Nat.le_of_ble_eq_true rfl⟩ (fun _ _ => ?_)
      refine hv_eqst (st' := [.int (zI (zB (sx_al (sx_at n tx ((i : Int))) ((p9 : Int)) (sx_at n tx (((i + p9 : Nat) : Int))))))]) rfl ?_
      refine hv_weq (ws' := [(tt, .inr (5, [.ref ss, .int (zI ((n : Int)))])), (ss, .inl (dA 2, 120, .inl (fun i => zI (tx i))))]) (rfl) ?_
      refine hv_if_ne C dX7_faultInCommand_43 (tgt := 51) (by decide) zB_en (fun hc43 => ?_) (fun hc43 => ?_)
      · refine hv_iinc C dX7_faultInCommand_51 0 rfl (v := zI (((p9 + 1 : Nat) : Int))) ((zI_add _ _).trans (zI_c (by omega))) (by decide) (lw := [(4, .int (zI (((p9 + 1 : Nat) : Int)))), (3, .int (zI ((sx_len (sx_at n tx ((i : Int))) : Int)))), (2, .int (zI (sx_at n tx ((i : Int))))), (0, .ref tt), (1, .int (zI ((i : Int))))]) rfl ?_
        refine hv_goto C dX7_faultInCommand_54 (tgt := 23) (by decide) ?_
        refine hv_lsub [0, 1, 2, 3, 4] (lv' := [(4, .int (zI (((p9 + 1 : Nat) : Int)))), (3, .int (zI ((sx_len (sx_at n tx ((i : Int))) : Int)))), (2, .int (zI (sx_at n tx ((i : Int))))), (0, .ref tt), (1, .int (zI ((i : Int))))]) rfl ?_
        obtain ⟨k, rfl⟩ : ∃ k, n9 = k + 1 := ⟨n9 - 1, by omega⟩
        exact ih k (p9 + 1) (by omega) ⟨by omega, by omega, by rw [← hi3, sx_fl, if_pos hc43]⟩
      · refine hv_iload_n C dX7_faultInCommand_46 4 rfl ?_
        refine hv_iload C dX7_faultInCommand_47 0 rfl ?_
        refine hv_iadd C dX7_faultInCommand_49 (z := zI (((i + p9 : Nat) : Int))) ((zI_add _ _).trans (zI_c (by omega))) ?_
        exact hv_iret C M dX7_faultInCommand_50 rfl rfl () trivial (hv_rv (by rw [← hi3]; obtain ⟨k, rfl⟩ : ∃ k, n9 = k + 1 := ⟨n9 - 1, by omega⟩; rw [sx_fl, if_neg hc43])) [] (List.Perm.of_eq (by first | rfl | exact (List.append_nil _).symm)) (Nat.le_refl _) (Nat.le_refl _)
  · refine hv_iload_n C dX7_faultInCommand_13 2 rfl ?_
    exact hv_iret C M dX7_faultInCommand_14 rfl rfl () trivial (hv_rv (by unfold sx_fc; rw [if_neg hc10])) [] (List.Perm.of_eq (by first | rfl | exact (List.append_nil _).symm)) (Nat.le_refl _) (Nat.le_refl _)

set_option maxHeartbeats 4000000 in
set_option maxRecDepth 100000 in
theorem k_X7_firstFault (l : Launch) (D : va_G) (dA : Nat → ClassId) (tt ss n : Nat) (tx : Nat → Int) (hn : n ≤ 120) (hr : sx_rg tx) : hv_Ct l yX7_firstFault (hw_W yX7_firstFault cX7_firstFault 3 (some .int)) 3 D dA [.ref tt] ([(tt, .inr (5, [.ref ss, .int (zI ((n : Int)))])), (ss, .inl (dA 2, 120, .inl (fun i => zI (tx i))))]) 0 0 (S := Unit) (fun _ => some (.int (zI (sx_err n tx)))) (fun _ => True) (fun _ => [(tt, .inr (5, [.ref ss, .int (zI ((n : Int)))])), (ss, .inl (dA 2, 120, .inl (fun i => zI (tx i))))]) := by
  refine hv_of (cc := cX7_firstFault) (maxL := 3) (ret := (some .int)) (own := RX7) rfl (by decide) rfl (Nat.le_of_ble_eq_true rfl) ?_
  intro p e s m args below meth c C M
  refine hv_lveq (lv' := [(0, .ref tt)]) rfl ?_
  refine hv_aload_n C dX7_firstFault_0 0 rfl ?_
  refine hv_iconst C dX7_firstFault_1 (v := zI (0)) rfl ?_
  refine hv_callV (As := [.int (zI (0))]) (rest := []) (wc := [(tt, .inr (5, [.ref ss, .int (zI ((n : Int)))])), (ss, .inl (dA 2, 120, .inl (fun i => zI (tx i))))]) (wr := []) C (k_X7_at l D dA tt ss n tx hn hr (0) (by omega)) (cwV 1 C.1.2.2.2.2 (hw_V tw_m_RX7_19 tw_i_X7_at tw_s_X7_at tw_n_RX7 tw_k_X7_at) rfl rfl rfl (by decide +kernel) ⟨Nat.le_of_ble_eq_true rfl, Nat.le_of_ble_eq_true rfl⟩) (hv_pm [0, 0] rfl) rfl 0 5 rfl rfl rfl (Nat.le_of_ble_eq_true rfl) dX7_firstFault_2 ⟨Nat.le_of_ble_eq_true rfl, Nat.le_of_ble_eq_true rfl⟩ (fun _ _ => ?_)
  have hat2 := sx_at_ran (n := n) hr (0)
  refine hv_eqst (st' := [.int (zI (sx_at n tx (0)))]) rfl ?_
  refine hv_weq (ws' := [(tt, .inr (5, [.ref ss, .int (zI ((n : Int)))])), (ss, .inl (dA 2, 120, .inl (fun i => zI (tx i))))]) (rfl) ?_
  refine hv_bipush C dX7_firstFault_5 (v := zI (72)) (by decide +kernel) ?_
  refine hv_icmp_eq C dX7_firstFault_7 (tgt := 12) (by decide) (zI_eq (by omega)) (fun hc7 => ?_) (fun hc7 => ?_)
  · refine hv_aload_n C dX7_firstFault_12 0 rfl ?_
    refine hv_callV (As := []) (rest := []) (wc := [(tt, .inr (5, [.ref ss, .int (zI ((n : Int)))])), (ss, .inl (dA 2, 120, .inl (fun i => zI (tx i))))]) (wr := []) C (k_X7_behindStems l D dA tt ss n tx hn hr) (cwV 0 C.1.2.2.2.2 (hw_V tw_m_RX7_27 tw_i_X7_behindStems tw_s_X7_behindStems tw_n_RX7 tw_k_X7_behindStems) rfl rfl rfl (by decide +kernel) ⟨Nat.le_of_ble_eq_true rfl, Nat.le_of_ble_eq_true rfl⟩) (hv_pm [0, 0] rfl) rfl 0 5 rfl rfl rfl (Nat.le_of_ble_eq_true rfl) dX7_firstFault_13 ⟨Nat.le_of_ble_eq_true rfl, Nat.le_of_ble_eq_true rfl⟩ (fun _ _ => ?_)
    have hbs := sx_bs_ran n tx
    refine hv_eqst (st' := [.int (zI ((sx_bs n tx : Int)))]) rfl ?_
    refine hv_weq (ws' := [(tt, .inr (5, [.ref ss, .int (zI ((n : Int)))])), (ss, .inl (dA 2, 120, .inl (fun i => zI (tx i))))]) (rfl) ?_
    refine hv_istore_n C dX7_firstFault_16 (lw := [(1, .int (zI ((sx_bs n tx : Int)))), (0, .ref tt)]) (by decide) rfl ?_
    refine hv_iload_n C dX7_firstFault_17 0 rfl ?_
    refine hv_iconst C dX7_firstFault_18 (v := zI (2)) rfl ?_
    refine hv_icmp_gt C dX7_firstFault_19 (tgt := 24) (by decide) (zI_lt (by omega)) (fun hc19 => ?_) (fun hc19 => ?_)
    · refine hv_loop (σ := Nat) (fun n9 x => n ≤ x + n9 ∧ sx_ff n tx n9 x = sx_err n tx ∧ x ≤ 124 ∧ n9 ≤ 120) (fun x => [(tt, .inr (5, [.ref ss, .int (zI ((n : Int)))])), (ss, .inl (dA 2, 120, .inl (fun i => zI (tx i))))]) (fun x => [(1, .int (zI ((x : Int)))), (0, .ref tt)]) (fun x => []) (fun _ => 0) (fun _ => 0) (120) (sx_bs n tx) (⟨by omega, by unfold sx_err; rw [if_pos (by omega), if_neg (by omega)], by omega, Nat.le_refl _⟩) (⟨rfl, rfl, rfl, rfl, rfl⟩) (fun n9 x hI ih => ?_)
      obtain ⟨i, rfl⟩ : ∃ i, i = x := ⟨x, rfl⟩
      obtain ⟨hi1, hi2, hi3, hi4⟩ := hI
      refine hv_iload_n C dX7_firstFault_24 0 rfl ?_
      refine hv_aload_n C dX7_firstFault_25 1 rfl ?_
      refine hv_get C dX7_firstFault_26 (fun w h => hw_c (tw_u_7 w h)) 0 (ci := 5) rfl rfl 1 (by decide) (hw_c tw_f_RX7_15) rfl ?_
      refine hv_icmp_ge C dX7_firstFault_29 (tgt := 61) (by decide) (zI_le (by omega)) (fun hc29 => ?_) (fun hc29 => ?_)
      · refine hv_iconst C dX7_firstFault_61 (v := zI (-1)) rfl ?_
        exact hv_iret C M dX7_firstFault_62 rfl rfl () trivial (hv_rv (by rw [← hi2]; rcases n9 with _ | k; rfl; rw [sx_ff, if_neg (by omega)])) [] (List.Perm.of_eq (by first | rfl | exact (List.append_nil _).symm)) (Nat.le_refl _) (Nat.le_refl _)
      · refine hv_aload_n C dX7_firstFault_32 1 rfl ?_
        refine hv_iload_n C dX7_firstFault_33 0 rfl ?_
        refine hv_callV (As := [.int (zI ((i : Int)))]) (rest := []) (wc := [(tt, .inr (5, [.ref ss, .int (zI ((n : Int)))])), (ss, .inl (dA 2, 120, .inl (fun i => zI (tx i))))]) (wr := []) C (k_X7_faultInCommand l D dA tt ss n tx hn hr i rfl (by omega)) (cwV 1 C.1.2.2.2.2 (hw_V tw_m_RX7_37 tw_i_X7_faultInCommand tw_s_X7_faultInCommand tw_n_RX7 tw_k_X7_faultInCommand) rfl rfl rfl (by decide +kernel) ⟨Nat.le_of_ble_eq_true rfl, Nat.le_of_ble_eq_true rfl⟩) (hv_pm [0, 0] rfl) rfl 0 5 rfl rfl rfl (Nat.le_of_ble_eq_true rfl) dX7_firstFault_34 ⟨Nat.le_of_ble_eq_true rfl, Nat.le_of_ble_eq_true rfl⟩ (fun _ _ => ?_)
        have hfc := sx_fc_ran n tx i
        refine hv_eqst (st' := [.int (zI (sx_fc n tx i))]) rfl ?_
        refine hv_weq (ws' := [(tt, .inr (5, [.ref ss, .int (zI ((n : Int)))])), (ss, .inl (dA 2, 120, .inl (fun i => zI (tx i))))]) (rfl) ?_
        refine hv_istore_n C dX7_firstFault_37 (lw := [(2, .int (zI (sx_fc n tx i))), (1, .int (zI ((i : Int)))), (0, .ref tt)]) (by decide) rfl ?_
        refine hv_iload_n C dX7_firstFault_38 0 rfl ?_
        refine hv_iconst C dX7_firstFault_39 (v := zI (-1)) rfl ?_
        refine hv_icmp_eq C dX7_firstFault_40 (tgt := 45) (by decide) (zI_eq (by omega)) (fun hc40 => ?_) (fun hc40 => ?_)
        · refine hv_iload_n C dX7_firstFault_45 1 rfl ?_
          refine hv_iconst C dX7_firstFault_46 (v := zI (1)) rfl ?_
          refine hv_aload_n C dX7_firstFault_47 2 rfl ?_
          refine hv_iload_n C dX7_firstFault_48 1 rfl ?_
          refine hv_callV (As := [.int (zI ((i : Int)))]) (rest := [.int (zI (1)), .int (zI ((i : Int)))]) (wc := [(tt, .inr (5, [.ref ss, .int (zI ((n : Int)))])), (ss, .inl (dA 2, 120, .inl (fun i => zI (tx i))))]) (wr := []) C (k_X7_at l D dA tt ss n tx hn hr ((i : Int)) (by omega)) (cwV 1 C.1.2.2.2.2 (hw_V tw_m_RX7_19 tw_i_X7_at tw_s_X7_at tw_n_RX7 tw_k_X7_at) rfl rfl rfl (by decide +kernel) ⟨Nat.le_of_ble_eq_true rfl, Nat.le_of_ble_eq_true rfl⟩) (hv_pm [0, 0] rfl) rfl 0 5 rfl rfl rfl (Nat.le_of_ble_eq_true rfl) dX7_firstFault_49 ⟨Nat.le_of_ble_eq_true rfl, Nat.le_of_ble_eq_true rfl⟩ (fun _ _ => ?_)
          have hat49 := sx_at_ran (n := n) hr ((i : Int))
          refine hv_eqst (st' := [.int (zI (sx_at n tx ((i : Int)))), .int (zI (1)), .int (zI ((i : Int)))]) rfl ?_
          refine hv_weq (ws' := [(tt, .inr (5, [.ref ss, .int (zI ((n : Int)))])), (ss, .inl (dA 2, 120, .inl (fun i => zI (tx i))))]) (rfl) ?_
          refine hv_callS (As := [.int (zI (sx_at n tx ((i : Int))))]) (rest := [.int (zI (1)), .int (zI ((i : Int)))]) (wc := []) (wr := [(tt, .inr (5, [.ref ss, .int (zI ((n : Int)))])), (ss, .inl (dA 2, 120, .inl (fun i => zI (tx i))))]) C (k_X7_digitsBehind l D dA (sx_at n tx ((i : Int))) (by omega)) (va_cwS 1 C.1.2.2.2.2 (hw_S tw_m_RX7_40 tw_t_X7_digitsBehind tw_n_RX7 tw_k_X7_digitsBehind) rfl rfl rfl (by decide +kernel) ⟨Nat.le_of_ble_eq_true rfl, Nat.le_of_ble_eq_true rfl⟩) (hv_pm [] rfl) rfl rfl (Nat.le_of_ble_eq_true rfl) dX7_firstFault_52 ⟨Nat.le_of_ble_eq_true rfl, Nat.le_of_ble_eq_true rfl⟩ (fun _ _ => ?_)
          have hle := sx_len3 (sx_at n tx ((i : Int)))
          refine hv_eqst (st' := [.int (zI ((sx_len (sx_at n tx ((i : Int))) : Int))), .int (zI (1)), .int (zI ((i : Int)))]) rfl ?_
          refine hv_weq (ws' := [(tt, .inr (5, [.ref ss, .int (zI ((n : Int)))])), (ss, .inl (dA 2, 120, .inl (fun i => zI (tx i))))]) (rfl) ?_
          refine hv_iadd C dX7_firstFault_55 (z := zI (((1 + sx_len (sx_at n tx (i : Int)) : Nat) : Int))) ((zI_add _ _).trans (zI_c (by omega))) ?_
          refine hv_iadd C dX7_firstFault_56 (z := zI (((i + 1 + sx_len (sx_at n tx (i : Int)) : Nat) : Int))) ((zI_add _ _).trans (zI_c (by omega))) ?_
          refine hv_istore_n C dX7_firstFault_57 (lw := [(1, .int (zI (((i + 1 + sx_len (sx_at n tx (i : Int)) : Nat) : Int)))), (2, .int (zI (sx_fc n tx i))), (0, .ref tt)]) (by decide) rfl ?_
          refine hv_goto C dX7_firstFault_58 (tgt := 24) (by decide) ?_
          refine hv_lsub [0, 2] (lv' := [(1, .int (zI (((i + 1 + sx_len (sx_at n tx (i : Int)) : Nat) : Int)))), (0, .ref tt)]) rfl ?_
          obtain ⟨k, rfl⟩ : ∃ k, n9 = k + 1 := ⟨n9 - 1, by omega⟩
          exact ih k (i + 1 + sx_len (sx_at n tx (i : Int))) (by omega) ⟨by omega, by rw [← hi2, sx_ff, if_pos (by omega), if_pos (by omega)], by omega, by omega⟩
        · refine hv_iload_n C dX7_firstFault_43 0 rfl ?_
          exact hv_iret C M dX7_firstFault_44 rfl rfl () trivial (hv_rv (by rw [← hi2]; obtain ⟨k, rfl⟩ : ∃ k, n9 = k + 1 := ⟨n9 - 1, by omega⟩; rw [sx_ff, if_pos (by omega), if_neg (by omega)])) [] (List.Perm.of_eq (by first | rfl | exact (List.append_nil _).symm)) (Nat.le_refl _) (Nat.le_refl _)
    · refine hv_iload_n C dX7_firstFault_22 0 rfl ?_
      exact hv_iret C M dX7_firstFault_23 rfl rfl () trivial (hv_rv (by unfold sx_err; rw [if_pos (by omega), if_pos (by omega)])) [] (List.Perm.of_eq (by first | rfl | exact (List.append_nil _).symm)) (Nat.le_refl _) (Nat.le_refl _)
  · refine hv_iconst C dX7_firstFault_10 (v := zI (0)) rfl ?_
    exact hv_iret C M dX7_firstFault_11 rfl rfl () trivial (hv_rv (by unfold sx_err; rw [if_neg (by omega)])) [] (List.Perm.of_eq (by first | rfl | exact (List.append_nil _).symm)) (Nat.le_refl _) (Nat.le_refl _)
