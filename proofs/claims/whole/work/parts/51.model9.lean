/-! the model: texts -/
theorem mz_done {b : Bool} {ou : Int} : ou + (if b = true then 0 else 1) = if b = true then ou else ou + 1 := by
  split <;> omega

set_option maxHeartbeats 4000000 in
set_option maxRecDepth 100000 in
theorem k_X9_digit_t (l : Launch) (D : va_G) (dA : Nat → ClassId) (m9 xt nw tr di ke ik wt : Nat) (rf : Int) (n : Nat) (ac ld : Int) (i : Nat) (ou : Int) (tx : Nat → Int) (hn : n ≤ 120) (hr : sx_rg tx) (hi : i < 300) (a lo hi9 : Int) (ha : -1 ≤ a ∧ a < 1000) (hlo : 0 ≤ lo ∧ lo < 1000) (hh9 : 0 ≤ hi9 ∧ hi9 < 1000) (hok : (¬ a = -1 ∧ lo ≤ sx_at n tx (i : Int) - 48 ∧ sx_at n tx (i : Int) - 48 ≤ hi9)) : hv_Ct l yX9_digit (hw_W yX9_digit cX9_digit 5 (some .int)) 1 D dA [.ref m9, .int (zI (a)), .int (zI (lo)), .int (zI (hi9))] ([(m9, .inr (7, [.int (zI (rf)), .ref xt, .int (zI ((n : Int))), .ref nw, .ref tr, .ref di, .int (zI (ac)), .ref ke, .ref ik, .ref wt, .int (zI (ld)), .int (zI ((i : Int))), .int (zI (ou))])), (xt, .inl (dA 0, 120, .inl (fun i => zI (tx i))))]) 0 0 (S := Unit) (fun _ => some (.int (zI (sx_at n tx (i : Int) - 48)))) (fun _ => True) (fun _ => [(m9, .inr (7, [.int (zI (rf)), .ref xt, .int (zI ((n : Int))), .ref nw, .ref tr, .ref di, .int (zI (ac)), .ref ke, .ref ik, .ref wt, .int (zI (ld)), .int (zI (((i + 1 : Nat) : Int))), .int (zI (ou))])), (xt, .inl (dA 0, 120, .inl (fun i => zI (tx i))))]) := by
  have hin : i < n → sx_at n tx (i : Int) = tx i := fun q => by rw [sx_at_in (by omega), Int.toNat_natCast]
  have hout : n ≤ i → sx_at n tx (i : Int) = -1 := fun q => sx_at_out (by omega)
  have hri := hr i
  refine hv_of (cc := cX9_digit) (maxL := 5) (ret := (some .int)) (own := RX9) rfl (by decide) rfl (Nat.le_of_ble_eq_true rfl) ?_
  intro p e s m args below meth c C M
  refine hv_lveq (lv' := [(0, .ref m9), (1, .int (zI (a))), (2, .int (zI (lo))), (3, .int (zI (hi9)))]) rfl ?_
  refine hv_aload_n C dX9_digit_0 0 rfl ?_
  refine hv_get C dX9_digit_1 (fun w h => hw_c (tw_u_9 w h)) 0 (ci := 7) rfl rfl 11 (by decide) (hw_c tw_f_RX9_126) rfl ?_
  refine hv_aload_n C dX9_digit_4 0 rfl ?_
  refine hv_get C dX9_digit_5 (fun w h => hw_c (tw_u_9 w h)) 0 (ci := 7) rfl rfl 2 (by decide) (hw_c tw_f_RX9_119) rfl ?_
  refine hv_icmp_ge C dX9_digit_8 (tgt := 26) (by decide) (zI_le (by omega)) (fun hc8 => ?_) (fun hc8 => ?_)
  · exfalso; have := hout (by omega); omega
  · have hat := hin (by omega)
    refine hv_aload_n C dX9_digit_11 0 rfl ?_
    refine hv_get C dX9_digit_12 (fun w h => hw_c (tw_u_9 w h)) 0 (ci := 7) rfl rfl 1 (by decide) (hw_c tw_f_RX9_7) rfl ?_
    refine hv_aload_n C dX9_digit_15 0 rfl ?_
    refine hv_get C dX9_digit_16 (fun w h => hw_c (tw_u_9 w h)) 0 (ci := 7) rfl rfl 11 (by decide) (hw_c tw_f_RX9_126) rfl ?_
    refine hv_iald C dX9_digit_19 1 rfl (i) (zI_nat _) (by omega) (by omega) (v := (zI (tx i))) rfl ?_
    refine hv_bipush C dX9_digit_20 (v := zI (48)) (by decide +kernel) ?_
    refine hv_isub C dX9_digit_22 (zI_sub _ _) ?_
    refine hv_goto C dX9_digit_23 (tgt := 27) (by decide) ?_
    refine hv_istore C dX9_digit_27 (lw := [(4, .int (zI ((tx i) - (48)))), (0, .ref m9), (1, .int (zI (a))), (2, .int (zI (lo))), (3, .int (zI (hi9)))]) (by decide) rfl ?_
    refine hv_iload_n C dX9_digit_29 2 rfl ?_
    refine hv_iconst C dX9_digit_30 (v := zI (-1)) rfl ?_
    refine hv_icmp_eq C dX9_digit_31 (tgt := 47) (by decide) (zI_eq (by omega)) (fun hc31 => ?_) (fun hc31 => ?_)
    · exfalso; omega
    · refine hv_iload C dX9_digit_34 0 rfl ?_
      refine hv_i2l C dX9_digit_36 (v := (zL ((tx i) - (48)))) (by exact zL_i (by omega)) ?_
      refine hv_iload_n C dX9_digit_37 3 rfl ?_
      refine hv_i2l C dX9_digit_38 (v := (zL (lo))) (by exact zL_i (by omega)) ?_
      refine hv_iload_n C dX9_digit_39 4 rfl ?_
      refine hv_i2l C dX9_digit_40 (v := (zL (hi9))) (by exact zL_i (by omega)) ?_
      refine hv_eqst (st' := [.long (zL (hi9)), .long (zL (lo)), .long (zL ((tx i) - (48)))]) (by rfl) ?_
      refine hv_callS (As := [.long (zL ((tx i) - (48))), .long (zL (lo)), .long (zL (hi9))]) (rest := []) (wc := []) (wr := [(m9, .inr (7, [.int (zI (rf)), .ref xt, .int (zI ((n : Int))), .ref nw, .ref tr, .ref di, .int (zI (ac)), .ref ke, .ref ik, .ref wt, .int (zI (ld)), .int (zI ((i : Int))), .int (zI (ou))])), (xt, .inl (dA 0, 120, .inl (fun i => zI (tx i))))]) C (k_X9_in l D dA ((tx i) - (48)) (by omega) (lo) (by omega) (hi9) (by omega)) (va_cwS 3 C.1.2.2.2.2 (hw_S tw_m_RX9_43 tw_t_X9_in tw_n_RX9 tw_k_X9_in) rfl rfl rfl (by decide +kernel) ⟨Nat.le_of_ble_eq_true rfl, Nat.le_of_ble_eq_true rfl⟩) (hv_pm [] rfl) rfl rfl (Nat.le_of_ble_eq_true rfl) dX9_digit_41 ⟨Nat.le_of_ble_eq_true rfl, Nat.le_of_ble_eq_true rfl⟩ (fun _ _ => ?_)
      refine hv_eqst (st' := [.int (zI (zB (decide (lo ≤ (tx i) - (48) ∧ (tx i) - (48) ≤ hi9))))]) rfl ?_
      refine hv_weq (ws' := [(m9, .inr (7, [.int (zI (rf)), .ref xt, .int (zI ((n : Int))), .ref nw, .ref tr, .ref di, .int (zI (ac)), .ref ke, .ref ik, .ref wt, .int (zI (ld)), .int (zI ((i : Int))), .int (zI (ou))])), (xt, .inl (dA 0, 120, .inl (fun i => zI (tx i))))]) (rfl) ?_
      refine hv_if_ne C dX9_digit_44 (tgt := 49) (by decide) zB_n0 (fun hc44 => ?_) (fun hc44 => ?_)
      · refine hv_aload_n C dX9_digit_49 1 rfl ?_
        refine hv_dup C dX9_digit_50 rfl ?_
        refine hv_get C dX9_digit_51 (fun w h => hw_c (tw_u_9 w h)) 0 (ci := 7) rfl rfl 11 (by decide) (hw_c tw_f_RX9_126) rfl ?_
        refine hv_iconst C dX9_digit_54 (v := zI (1)) rfl ?_
        refine hv_iadd C dX9_digit_55 (z := zI (((i + 1 : Nat) : Int))) ((zI_add _ _).trans (zI_c (by omega))) ?_
        refine hv_put C dX9_digit_56 (fun w h => hw_c (tw_u_9 w h)) tyX9 tyX9_ok nmX9 0 (ci := 7) (ty := .int) rfl rfl 11 (by decide) (hw_c tw_f_RX9_126) rfl rfl rfl rfl (Nat.le_of_ble_eq_true rfl) ?_
        refine hv_weq (ws' := [(m9, .inr (7, [.int (zI (rf)), .ref xt, .int (zI ((n : Int))), .ref nw, .ref tr, .ref di, .int (zI (ac)), .ref ke, .ref ik, .ref wt, .int (zI (ld)), .int (zI (((i + 1 : Nat) : Int))), .int (zI (ou))])), (xt, .inl (dA 0, 120, .inl (fun i => zI (tx i))))]) rfl ?_
        refine hv_iload C dX9_digit_59 0 rfl ?_
        exact hv_iret C M dX9_digit_61 rfl rfl () trivial (hv_rv (by omega)) [] (List.Perm.of_eq (by first | rfl | exact (List.append_nil _).symm)) (Nat.le_refl _) (Nat.le_refl _)
      · exfalso; omega

set_option maxHeartbeats 4000000 in
set_option maxRecDepth 100000 in
theorem k_X9_digit_f (l : Launch) (D : va_G) (dA : Nat → ClassId) (m9 xt nw tr di ke ik wt : Nat) (rf : Int) (n : Nat) (ac ld : Int) (i : Nat) (ou : Int) (tx : Nat → Int) (hn : n ≤ 120) (hr : sx_rg tx) (hi : i < 300) (a lo hi9 : Int) (ha : -1 ≤ a ∧ a < 1000) (hlo : 0 ≤ lo ∧ lo < 1000) (hh9 : 0 ≤ hi9 ∧ hi9 < 1000) (hok : ¬ (¬ a = -1 ∧ lo ≤ sx_at n tx (i : Int) - 48 ∧ sx_at n tx (i : Int) - 48 ≤ hi9)) : hv_Ct l yX9_digit (hw_W yX9_digit cX9_digit 5 (some .int)) 1 D dA [.ref m9, .int (zI (a)), .int (zI (lo)), .int (zI (hi9))] ([(m9, .inr (7, [.int (zI (rf)), .ref xt, .int (zI ((n : Int))), .ref nw, .ref tr, .ref di, .int (zI (ac)), .ref ke, .ref ik, .ref wt, .int (zI (ld)), .int (zI ((i : Int))), .int (zI (ou))])), (xt, .inl (dA 0, 120, .inl (fun i => zI (tx i))))]) 0 0 (S := Unit) (fun _ => some (.int (zI (-1)))) (fun _ => True) (fun _ => [(m9, .inr (7, [.int (zI (rf)), .ref xt, .int (zI ((n : Int))), .ref nw, .ref tr, .ref di, .int (zI (ac)), .ref ke, .ref ik, .ref wt, .int (zI (ld)), .int (zI ((i : Int))), .int (zI (ou))])), (xt, .inl (dA 0, 120, .inl (fun i => zI (tx i))))]) := by
  have hin : i < n → sx_at n tx (i : Int) = tx i := fun q => by rw [sx_at_in (by omega), Int.toNat_natCast]
  have hout : n ≤ i → sx_at n tx (i : Int) = -1 := fun q => sx_at_out (by omega)
  have hri := hr i
  refine hv_of (cc := cX9_digit) (maxL := 5) (ret := (some .int)) (own := RX9) rfl (by decide) rfl (Nat.le_of_ble_eq_true rfl) ?_
  intro p e s m args below meth c C M
  refine hv_lveq (lv' := [(0, .ref m9), (1, .int (zI (a))), (2, .int (zI (lo))), (3, .int (zI (hi9)))]) rfl ?_
  refine hv_aload_n C dX9_digit_0 0 rfl ?_
  refine hv_get C dX9_digit_1 (fun w h => hw_c (tw_u_9 w h)) 0 (ci := 7) rfl rfl 11 (by decide) (hw_c tw_f_RX9_126) rfl ?_
  refine hv_aload_n C dX9_digit_4 0 rfl ?_
  refine hv_get C dX9_digit_5 (fun w h => hw_c (tw_u_9 w h)) 0 (ci := 7) rfl rfl 2 (by decide) (hw_c tw_f_RX9_119) rfl ?_
  refine hv_icmp_ge C dX9_digit_8 (tgt := 26) (by decide) (zI_le (by omega)) (fun hc8 => ?_) (fun hc8 => ?_)
  · have hat := hout (by omega)
    refine hv_iconst C dX9_digit_26 (v := zI (-1)) rfl ?_
    refine hv_istore C dX9_digit_27 (lw := [(4, .int (zI (-1))), (0, .ref m9), (1, .int (zI (a))), (2, .int (zI (lo))), (3, .int (zI (hi9)))]) (by decide) rfl ?_
    refine hv_iload_n C dX9_digit_29 2 rfl ?_
    refine hv_iconst C dX9_digit_30 (v := zI (-1)) rfl ?_
    refine hv_icmp_eq C dX9_digit_31 (tgt := 47) (by decide) (zI_eq (by omega)) (fun hc31 => ?_) (fun hc31 => ?_)
    · refine hv_iconst C dX9_digit_47 (v := zI (-1)) rfl ?_
      exact hv_iret C M dX9_digit_48 rfl rfl () trivial rfl [] (List.Perm.of_eq (by first | rfl | exact (List.append_nil _).symm)) (Nat.le_refl _) (Nat.le_refl _)
    · refine hv_iload C dX9_digit_34 0 rfl ?_
      refine hv_i2l C dX9_digit_36 (v := (zL (-1))) (by exact zL_i (by omega)) ?_
      refine hv_iload_n C dX9_digit_37 3 rfl ?_
      refine hv_i2l C dX9_digit_38 (v := (zL (lo))) (by exact zL_i (by omega)) ?_
      refine hv_iload_n C dX9_digit_39 4 rfl ?_
      refine hv_i2l C dX9_digit_40 (v := (zL (hi9))) (by exact zL_i (by omega)) ?_
      refine hv_eqst (st' := [.long (zL (hi9)), .long (zL (lo)), .long (zL (-1))]) (by rfl) ?_
      refine hv_callS (As := [.long (zL (-1)), .long (zL (lo)), .long (zL (hi9))]) (rest := []) (wc := []) (wr := [(m9, .inr (7, [.int (zI (rf)), .ref xt, .int (zI ((n : Int))), .ref nw, .ref tr, .ref di, .int (zI (ac)), .ref ke, .ref ik, .ref wt, .int (zI (ld)), .int (zI ((i : Int))), .int (zI (ou))])), (xt, .inl (dA 0, 120, .inl (fun i => zI (tx i))))]) C (k_X9_in l D dA (-1) (by omega) (lo) (by omega) (hi9) (by omega)) (va_cwS 3 C.1.2.2.2.2 (hw_S tw_m_RX9_43 tw_t_X9_in tw_n_RX9 tw_k_X9_in) rfl rfl rfl (by decide +kernel) ⟨Nat.le_of_ble_eq_true rfl, Nat.le_of_ble_eq_true rfl⟩) (hv_pm [] rfl) rfl rfl (Nat.le_of_ble_eq_true rfl) dX9_digit_41 ⟨Nat.le_of_ble_eq_true rfl, Nat.le_of_ble_eq_true rfl⟩ (fun _ _ => ?_)
      refine hv_eqst (st' := [.int (zI (zB (decide (lo ≤ -1 ∧ -1 ≤ hi9))))]) rfl ?_
      refine hv_weq (ws' := [(m9, .inr (7, [.int (zI (rf)), .ref xt, .int (zI ((n : Int))), .ref nw, .ref tr, .ref di, .int (zI (ac)), .ref ke, .ref ik, .ref wt, .int (zI (ld)), .int (zI ((i : Int))), .int (zI (ou))])), (xt, .inl (dA 0, 120, .inl (fun i => zI (tx i))))]) (rfl) ?_
      refine hv_if_ne C dX9_digit_44 (tgt := 49) (by decide) zB_n0 (fun hc44 => ?_) (fun hc44 => ?_)
      · exfalso; omega
      · refine hv_iconst C dX9_digit_47 (v := zI (-1)) rfl ?_
        exact hv_iret C M dX9_digit_48 rfl rfl () trivial rfl [] (List.Perm.of_eq (by first | rfl | exact (List.append_nil _).symm)) (Nat.le_refl _) (Nat.le_refl _)
  · have hat := hin (by omega)
    refine hv_aload_n C dX9_digit_11 0 rfl ?_
    refine hv_get C dX9_digit_12 (fun w h => hw_c (tw_u_9 w h)) 0 (ci := 7) rfl rfl 1 (by decide) (hw_c tw_f_RX9_7) rfl ?_
    refine hv_aload_n C dX9_digit_15 0 rfl ?_
    refine hv_get C dX9_digit_16 (fun w h => hw_c (tw_u_9 w h)) 0 (ci := 7) rfl rfl 11 (by decide) (hw_c tw_f_RX9_126) rfl ?_
    refine hv_iald C dX9_digit_19 1 rfl (i) (zI_nat _) (by omega) (by omega) (v := (zI (tx i))) rfl ?_
    refine hv_bipush C dX9_digit_20 (v := zI (48)) (by decide +kernel) ?_
    refine hv_isub C dX9_digit_22 (zI_sub _ _) ?_
    refine hv_goto C dX9_digit_23 (tgt := 27) (by decide) ?_
    refine hv_istore C dX9_digit_27 (lw := [(4, .int (zI ((tx i) - (48)))), (0, .ref m9), (1, .int (zI (a))), (2, .int (zI (lo))), (3, .int (zI (hi9)))]) (by decide) rfl ?_
    refine hv_iload_n C dX9_digit_29 2 rfl ?_
    refine hv_iconst C dX9_digit_30 (v := zI (-1)) rfl ?_
    refine hv_icmp_eq C dX9_digit_31 (tgt := 47) (by decide) (zI_eq (by omega)) (fun hc31 => ?_) (fun hc31 => ?_)
    · refine hv_iconst C dX9_digit_47 (v := zI (-1)) rfl ?_
      exact hv_iret C M dX9_digit_48 rfl rfl () trivial rfl [] (List.Perm.of_eq (by first | rfl | exact (List.append_nil _).symm)) (Nat.le_refl _) (Nat.le_refl _)
    · refine hv_iload C dX9_digit_34 0 rfl ?_
      refine hv_i2l C dX9_digit_36 (v := (zL ((tx i) - (48)))) (by exact zL_i (by omega)) ?_
      refine hv_iload_n C dX9_digit_37 3 rfl ?_
      refine hv_i2l C dX9_digit_38 (v := (zL (lo))) (by exact zL_i (by omega)) ?_
      refine hv_iload_n C dX9_digit_39 4 rfl ?_
      refine hv_i2l C dX9_digit_40 (v := (zL (hi9))) (by exact zL_i (by omega)) ?_
      refine hv_eqst (st' := [.long (zL (hi9)), .long (zL (lo)), .long (zL ((tx i) - (48)))]) (by rfl) ?_
      refine hv_callS (As := [.long (zL ((tx i) - (48))), .long (zL (lo)), .long (zL (hi9))]) (rest := []) (wc := []) (wr := [(m9, .inr (7, [.int (zI (rf)), .ref xt, .int (zI ((n : Int))), .ref nw, .ref tr, .ref di, .int (zI (ac)), .ref ke, .ref ik, .ref wt, .int (zI (ld)), .int (zI ((i : Int))), .int (zI (ou))])), (xt, .inl (dA 0, 120, .inl (fun i => zI (tx i))))]) C (k_X9_in l D dA ((tx i) - (48)) (by omega) (lo) (by omega) (hi9) (by omega)) (va_cwS 3 C.1.2.2.2.2 (hw_S tw_m_RX9_43 tw_t_X9_in tw_n_RX9 tw_k_X9_in) rfl rfl rfl (by decide +kernel) ⟨Nat.le_of_ble_eq_true rfl, Nat.le_of_ble_eq_true rfl⟩) (hv_pm [] rfl) rfl rfl (Nat.le_of_ble_eq_true rfl) dX9_digit_41 ⟨Nat.le_of_ble_eq_true rfl, Nat.le_of_ble_eq_true rfl⟩ (fun _ _ => ?_)
      refine hv_eqst (st' := [.int (zI (zB (decide (lo ≤ (tx i) - (48) ∧ (tx i) - (48) ≤ hi9))))]) rfl ?_
      refine hv_weq (ws' := [(m9, .inr (7, [.int (zI (rf)), .ref xt, .int (zI ((n : Int))), .ref nw, .ref tr, .ref di, .int (zI (ac)), .ref ke, .ref ik, .ref wt, .int (zI (ld)), .int (zI ((i : Int))), .int (zI (ou))])), (xt, .inl (dA 0, 120, .inl (fun i => zI (tx i))))]) (rfl) ?_
      refine hv_if_ne C dX9_digit_44 (tgt := 49) (by decide) zB_n0 (fun hc44 => ?_) (fun hc44 => ?_)
      · exfalso; omega
      · refine hv_iconst C dX9_digit_47 (v := zI (-1)) rfl ?_
        exact hv_iret C M dX9_digit_48 rfl rfl () trivial rfl [] (List.Perm.of_eq (by first | rfl | exact (List.append_nil _).symm)) (Nat.le_refl _) (Nat.le_refl _)

set_option maxHeartbeats 4000000 in
set_option maxRecDepth 100000 in
theorem k_X9_digit (l : Launch) (D : va_G) (dA : Nat → ClassId) (m9 xt nw tr di ke ik wt : Nat) (rf : Int) (n : Nat) (ac ld : Int) (i : Nat) (ou : Int) (tx : Nat → Int) (hn : n ≤ 120) (hr : sx_rg tx) (hi : i < 300) (a lo hi9 : Int) (ha : -1 ≤ a ∧ a < 1000) (hlo : 0 ≤ lo ∧ lo < 1000) (hh9 : 0 ≤ hi9 ∧ hi9 < 1000) : hv_Ct l yX9_digit (hw_W yX9_digit cX9_digit 5 (some .int)) 1 D dA [.ref m9, .int (zI (a)), .int (zI (lo)), .int (zI (hi9))] ([(m9, .inr (7, [.int (zI (rf)), .ref xt, .int (zI ((n : Int))), .ref nw, .ref tr, .ref di, .int (zI (ac)), .ref ke, .ref ik, .ref wt, .int (zI (ld)), .int (zI ((i : Int))), .int (zI (ou))])), (xt, .inl (dA 0, 120, .inl (fun i => zI (tx i))))]) 0 0 (S := Int × Nat) (fun u => some (.int (zI (u.1)))) (fun u => ((¬ a = -1 ∧ lo ≤ sx_at n tx (i : Int) - 48 ∧ sx_at n tx (i : Int) - 48 ≤ hi9) ∧ u.1 = sx_at n tx (i : Int) - 48 ∧ u.2 = i + 1) ∨ (¬ (¬ a = -1 ∧ lo ≤ sx_at n tx (i : Int) - 48 ∧ sx_at n tx (i : Int) - 48 ≤ hi9) ∧ u.1 = -1 ∧ u.2 = i)) (fun u => [(m9, .inr (7, [.int (zI (rf)), .ref xt, .int (zI ((n : Int))), .ref nw, .ref tr, .ref di, .int (zI (ac)), .ref ke, .ref ik, .ref wt, .int (zI (ld)), .int (zI ((u.2 : Int))), .int (zI (ou))])), (xt, .inl (dA 0, 120, .inl (fun i => zI (tx i))))]) := by
  have hin : i < n → sx_at n tx (i : Int) = tx i := fun q => by rw [sx_at_in (by omega), Int.toNat_natCast]
  have hout : n ≤ i → sx_at n tx (i : Int) = -1 := fun q => sx_at_out (by omega)
  have hri := hr i
  refine hv_of (cc := cX9_digit) (maxL := 5) (ret := (some .int)) (own := RX9) rfl (by decide) rfl (Nat.le_of_ble_eq_true rfl) ?_
  intro p e s m args below meth c C M
  refine hv_lveq (lv' := [(0, .ref m9), (1, .int (zI (a))), (2, .int (zI (lo))), (3, .int (zI (hi9)))]) rfl ?_
  refine hv_aload_n C dX9_digit_0 0 rfl ?_
  refine hv_get C dX9_digit_1 (fun w h => hw_c (tw_u_9 w h)) 0 (ci := 7) rfl rfl 11 (by decide) (hw_c tw_f_RX9_126) rfl ?_
  refine hv_aload_n C dX9_digit_4 0 rfl ?_
  refine hv_get C dX9_digit_5 (fun w h => hw_c (tw_u_9 w h)) 0 (ci := 7) rfl rfl 2 (by decide) (hw_c tw_f_RX9_119) rfl ?_
  refine hv_icmp_ge C dX9_digit_8 (tgt := 26) (by decide) (zI_le (by omega)) (fun hc8 => ?_) (fun hc8 => ?_)
  · have hat := hout (by omega)
    refine hv_iconst C dX9_digit_26 (v := zI (-1)) rfl ?_
    refine hv_istore C dX9_digit_27 (lw := [(4, .int (zI (-1))), (0, .ref m9), (1, .int (zI (a))), (2, .int (zI (lo))), (3, .int (zI (hi9)))]) (by decide) rfl ?_
    refine hv_iload_n C dX9_digit_29 2 rfl ?_
    refine hv_iconst C dX9_digit_30 (v := zI (-1)) rfl ?_
    refine hv_icmp_eq C dX9_digit_31 (tgt := 47) (by decide) (zI_eq (by omega)) (fun hc31 => ?_) (fun hc31 => ?_)
    · refine hv_iconst C dX9_digit_47 (v := zI (-1)) rfl ?_
      exact hv_iret C M dX9_digit_48 rfl rfl ((-1 : Int), i) (Or.inr ⟨by omega, rfl, rfl⟩) rfl [] (List.Perm.of_eq (by first | rfl | exact (List.append_nil _).symm)) (Nat.le_refl _) (Nat.le_refl _)
    · refine hv_iload C dX9_digit_34 0 rfl ?_
      refine hv_i2l C dX9_digit_36 (v := (zL (-1))) (by exact zL_i (by omega)) ?_
      refine hv_iload_n C dX9_digit_37 3 rfl ?_
      refine hv_i2l C dX9_digit_38 (v := (zL (lo))) (by exact zL_i (by omega)) ?_
      refine hv_iload_n C dX9_digit_39 4 rfl ?_
      refine hv_i2l C dX9_digit_40 (v := (zL (hi9))) (by exact zL_i (by omega)) ?_
      refine hv_eqst (st' := [.long (zL (hi9)), .long (zL (lo)), .long (zL (-1))]) (by rfl) ?_
      refine hv_callS (As := [.long (zL (-1)), .long (zL (lo)), .long (zL (hi9))]) (rest := []) (wc := []) (wr := [(m9, .inr (7, [.int (zI (rf)), .ref xt, .int (zI ((n : Int))), .ref nw, .ref tr, .ref di, .int (zI (ac)), .ref ke, .ref ik, .ref wt, .int (zI (ld)), .int (zI ((i : Int))), .int (zI (ou))])), (xt, .inl (dA 0, 120, .inl (fun i => zI (tx i))))]) C (k_X9_in l D dA (-1) (by omega) (lo) (by omega) (hi9) (by omega)) (va_cwS 3 C.1.2.2.2.2 (hw_S tw_m_RX9_43 tw_t_X9_in tw_n_RX9 tw_k_X9_in) rfl rfl rfl (by decide +kernel) ⟨Nat.le_of_ble_eq_true rfl, Nat.le_of_ble_eq_true rfl⟩) (hv_pm [] rfl) rfl rfl (Nat.le_of_ble_eq_true rfl) dX9_digit_41 ⟨Nat.le_of_ble_eq_true rfl, Nat.le_of_ble_eq_true rfl⟩ (fun _ _ => ?_)
      refine hv_eqst (st' := [.int (zI (zB (decide (lo ≤ -1 ∧ -1 ≤ hi9))))]) rfl ?_
      refine hv_weq (ws' := [(m9, .inr (7, [.int (zI (rf)), .ref xt, .int (zI ((n : Int))), .ref nw, .ref tr, .ref di, .int (zI (ac)), .ref ke, .ref ik, .ref wt, .int (zI (ld)), .int (zI ((i : Int))), .int (zI (ou))])), (xt, .inl (dA 0, 120, .inl (fun i => zI (tx i))))]) (rfl) ?_
      refine hv_if_ne C dX9_digit_44 (tgt := 49) (by decide) zB_n0 (fun hc44 => ?_) (fun hc44 => ?_)
      · exfalso; omega
      · refine hv_iconst C dX9_digit_47 (v := zI (-1)) rfl ?_
        exact hv_iret C M dX9_digit_48 rfl rfl ((-1 : Int), i) (Or.inr ⟨by omega, rfl, rfl⟩) rfl [] (List.Perm.of_eq (by first | rfl | exact (List.append_nil _).symm)) (Nat.le_refl _) (Nat.le_refl _)
  · have hat := hin (by omega)
    refine hv_aload_n C dX9_digit_11 0 rfl ?_
    refine hv_get C dX9_digit_12 (fun w h => hw_c (tw_u_9 w h)) 0 (ci := 7) rfl rfl 1 (by decide) (hw_c tw_f_RX9_7) rfl ?_
    refine hv_aload_n C dX9_digit_15 0 rfl ?_
    refine hv_get C dX9_digit_16 (fun w h => hw_c (tw_u_9 w h)) 0 (ci := 7) rfl rfl 11 (by decide) (hw_c tw_f_RX9_126) rfl ?_
    refine hv_iald C dX9_digit_19 1 rfl (i) (zI_nat _) (by omega) (by omega) (v := (zI (tx i))) rfl ?_
    refine hv_bipush C dX9_digit_20 (v := zI (48)) (by decide +kernel) ?_
    refine hv_isub C dX9_digit_22 (zI_sub _ _) ?_
    refine hv_goto C dX9_digit_23 (tgt := 27) (by decide) ?_
    refine hv_istore C dX9_digit_27 (lw := [(4, .int (zI ((tx i) - (48)))), (0, .ref m9), (1, .int (zI (a))), (2, .int (zI (lo))), (3, .int (zI (hi9)))]) (by decide) rfl ?_
    refine hv_iload_n C dX9_digit_29 2 rfl ?_
    refine hv_iconst C dX9_digit_30 (v := zI (-1)) rfl ?_
    refine hv_icmp_eq C dX9_digit_31 (tgt := 47) (by decide) (zI_eq (by omega)) (fun hc31 => ?_) (fun hc31 => ?_)
    · refine hv_iconst C dX9_digit_47 (v := zI (-1)) rfl ?_
      exact hv_iret C M dX9_digit_48 rfl rfl ((-1 : Int), i) (Or.inr ⟨by omega, rfl, rfl⟩) rfl [] (List.Perm.of_eq (by first | rfl | exact (List.append_nil _).symm)) (Nat.le_refl _) (Nat.le_refl _)
    · refine hv_iload C dX9_digit_34 0 rfl ?_
      refine hv_i2l C dX9_digit_36 (v := (zL ((tx i) - (48)))) (by exact zL_i (by omega)) ?_
      refine hv_iload_n C dX9_digit_37 3 rfl ?_
      refine hv_i2l C dX9_digit_38 (v := (zL (lo))) (by exact zL_i (by omega)) ?_
      refine hv_iload_n C dX9_digit_39 4 rfl ?_
      refine hv_i2l C dX9_digit_40 (v := (zL (hi9))) (by exact zL_i (by omega)) ?_
      refine hv_eqst (st' := [.long (zL (hi9)), .long (zL (lo)), .long (zL ((tx i) - (48)))]) (by rfl) ?_
      refine hv_callS (As := [.long (zL ((tx i) - (48))), .long (zL (lo)), .long (zL (hi9))]) (rest := []) (wc := []) (wr := [(m9, .inr (7, [.int (zI (rf)), .ref xt, .int (zI ((n : Int))), .ref nw, .ref tr, .ref di, .int (zI (ac)), .ref ke, .ref ik, .ref wt, .int (zI (ld)), .int (zI ((i : Int))), .int (zI (ou))])), (xt, .inl (dA 0, 120, .inl (fun i => zI (tx i))))]) C (k_X9_in l D dA ((tx i) - (48)) (by omega) (lo) (by omega) (hi9) (by omega)) (va_cwS 3 C.1.2.2.2.2 (hw_S tw_m_RX9_43 tw_t_X9_in tw_n_RX9 tw_k_X9_in) rfl rfl rfl (by decide +kernel) ⟨Nat.le_of_ble_eq_true rfl, Nat.le_of_ble_eq_true rfl⟩) (hv_pm [] rfl) rfl rfl (Nat.le_of_ble_eq_true rfl) dX9_digit_41 ⟨Nat.le_of_ble_eq_true rfl, Nat.le_of_ble_eq_true rfl⟩ (fun _ _ => ?_)
      refine hv_eqst (st' := [.int (zI (zB (decide (lo ≤ (tx i) - (48) ∧ (tx i) - (48) ≤ hi9))))]) rfl ?_
      refine hv_weq (ws' := [(m9, .inr (7, [.int (zI (rf)), .ref xt, .int (zI ((n : Int))), .ref nw, .ref tr, .ref di, .int (zI (ac)), .ref ke, .ref ik, .ref wt, .int (zI (ld)), .int (zI ((i : Int))), .int (zI (ou))])), (xt, .inl (dA 0, 120, .inl (fun i => zI (tx i))))]) (rfl) ?_
      refine hv_if_ne C dX9_digit_44 (tgt := 49) (by decide) zB_n0 (fun hc44 => ?_) (fun hc44 => ?_)
      · refine hv_aload_n C dX9_digit_49 1 rfl ?_
        refine hv_dup C dX9_digit_50 rfl ?_
        refine hv_get C dX9_digit_51 (fun w h => hw_c (tw_u_9 w h)) 0 (ci := 7) rfl rfl 11 (by decide) (hw_c tw_f_RX9_126) rfl ?_
        refine hv_iconst C dX9_digit_54 (v := zI (1)) rfl ?_
        refine hv_iadd C dX9_digit_55 (z := zI (((i + 1 : Nat) : Int))) ((zI_add _ _).trans (zI_c (by omega))) ?_
        refine hv_put C dX9_digit_56 (fun w h => hw_c (tw_u_9 w h)) tyX9 tyX9_ok nmX9 0 (ci := 7) (ty := .int) rfl rfl 11 (by decide) (hw_c tw_f_RX9_126) rfl rfl rfl rfl (Nat.le_of_ble_eq_true rfl) ?_
        refine hv_weq (ws' := [(m9, .inr (7, [.int (zI (rf)), .ref xt, .int (zI ((n : Int))), .ref nw, .ref tr, .ref di, .int (zI (ac)), .ref ke, .ref ik, .ref wt, .int (zI (ld)), .int (zI (((i + 1 : Nat) : Int))), .int (zI (ou))])), (xt, .inl (dA 0, 120, .inl (fun i => zI (tx i))))]) rfl ?_
        refine hv_iload C dX9_digit_59 0 rfl ?_
        exact hv_iret C M dX9_digit_61 rfl rfl (tx i - 48, i + 1) (Or.inl ⟨by omega, (show tx i - 48 = sx_at n tx (i : Int) - 48 by omega), rfl⟩) rfl [] (List.Perm.of_eq (by first | rfl | exact (List.append_nil _).symm)) (Nat.le_refl _) (Nat.le_refl _)
      · refine hv_iconst C dX9_digit_47 (v := zI (-1)) rfl ?_
        exact hv_iret C M dX9_digit_48 rfl rfl ((-1 : Int), i) (Or.inr ⟨by omega, rfl, rfl⟩) rfl [] (List.Perm.of_eq (by first | rfl | exact (List.append_nil _).symm)) (Nat.le_refl _) (Nat.le_refl _)

set_option maxHeartbeats 4000000 in
set_option maxRecDepth 100000 in
theorem k_X9_done (l : Launch) (D : va_G) (dA : Nat → ClassId) (m9 xt nw tr di ke ik wt : Nat) (rf sz ac ld sp ou : Int) {z : Int} (b : Bool) (eb : z = zB (b)) : hv_Ct l yX9_done (hw_W yX9_done cX9_done 2 (some .boolean)) 0 D dA [.ref m9, .int (zI (z))] ([(m9, .inr (7, [.int (zI (rf)), .ref xt, .int (zI (sz)), .ref nw, .ref tr, .ref di, .int (zI (ac)), .ref ke, .ref ik, .ref wt, .int (zI (ld)), .int (zI (sp)), .int (zI (ou))]))]) 0 0 (S := Unit) (fun _ => some (.int (zI 1))) (fun _ => True) (fun _ => [(m9, .inr (7, [.int (zI (rf)), .ref xt, .int (zI (sz)), .ref nw, .ref tr, .ref di, .int (zI (ac)), .ref ke, .ref ik, .ref wt, .int (zI (ld)), .int (zI (sp)), .int (zI (ou + (if b = true then 0 else 1)))]))]) := by
  subst eb
  refine hv_of (cc := cX9_done) (maxL := 2) (ret := (some .boolean)) (own := RX9) rfl (by decide) rfl (Nat.le_of_ble_eq_true rfl) ?_
  intro p e s m args below meth c C M
  refine hv_lveq (lv' := [(0, .ref m9), (1, .int (zI (zB (b))))]) rfl ?_
  refine hv_aload_n C dX9_done_0 0 rfl ?_
  refine hv_dup C dX9_done_1 rfl ?_
  refine hv_get C dX9_done_2 (fun w h => hw_c (tw_u_9 w h)) 0 (ci := 7) rfl rfl 12 (by decide) (hw_c tw_f_RX9_129) rfl ?_
  refine hv_iload_n C dX9_done_5 1 rfl ?_
  refine hv_if_eq C dX9_done_6 (tgt := 13) (by decide) zB_e (fun hc6 => ?_) (fun hc6 => ?_)
  · refine hv_iconst C dX9_done_13 (v := zI (1)) rfl ?_
    refine hv_iadd C dX9_done_14 (z := zI (ou + (if b = true then 0 else 1))) ((zI_add _ _).trans (zI_c (by rw [if_neg hc6]))) ?_
    refine hv_put C dX9_done_15 (fun w h => hw_c (tw_u_9 w h)) tyX9 tyX9_ok nmX9 0 (ci := 7) (ty := .int) rfl rfl 12 (by decide) (hw_c tw_f_RX9_129) rfl rfl rfl rfl (Nat.le_of_ble_eq_true rfl) ?_
    refine hv_weq (ws' := [(m9, .inr (7, [.int (zI (rf)), .ref xt, .int (zI (sz)), .ref nw, .ref tr, .ref di, .int (zI (ac)), .ref ke, .ref ik, .ref wt, .int (zI (ld)), .int (zI (sp)), .int (zI (ou + (if b = true then 0 else 1)))]))]) rfl ?_
    refine hv_iconst C dX9_done_18 (v := zI (1)) rfl ?_
    exact hv_iret C M dX9_done_19 rfl zB_n1 () trivial rfl [] (List.Perm.of_eq (by first | rfl | exact (List.append_nil _).symm)) (Nat.le_refl _) (Nat.le_refl _)
  · refine hv_iconst C dX9_done_9 (v := zI (0)) rfl ?_
    refine hv_goto C dX9_done_10 (tgt := 14) (by decide) ?_
    refine hv_iadd C dX9_done_14 (z := zI (ou + (if b = true then 0 else 1))) ((zI_add _ _).trans (zI_c (by rw [if_pos (by exact Decidable.not_not.mp (fun q => hc6 q))]))) ?_
    refine hv_put C dX9_done_15 (fun w h => hw_c (tw_u_9 w h)) tyX9 tyX9_ok nmX9 0 (ci := 7) (ty := .int) rfl rfl 12 (by decide) (hw_c tw_f_RX9_129) rfl rfl rfl rfl (Nat.le_of_ble_eq_true rfl) ?_
    refine hv_weq (ws' := [(m9, .inr (7, [.int (zI (rf)), .ref xt, .int (zI (sz)), .ref nw, .ref tr, .ref di, .int (zI (ac)), .ref ke, .ref ik, .ref wt, .int (zI (ld)), .int (zI (sp)), .int (zI (ou + (if b = true then 0 else 1)))]))]) rfl ?_
    refine hv_iconst C dX9_done_18 (v := zI (1)) rfl ?_
    exact hv_iret C M dX9_done_19 rfl zB_n1 () trivial rfl [] (List.Perm.of_eq (by first | rfl | exact (List.append_nil _).symm)) (Nat.le_refl _) (Nat.le_refl _)

theorem mz_fc_c {n i7 : Nat} {tx : Nat → Int} (h : sx_at n tx (i7 : Int) = 99) : sx_fc n tx i7 = if 48 ≤ sx_at n tx ((i7 + 1 : Nat) : Int) ∧ sx_at n tx ((i7 + 1 : Nat) : Int) ≤ 53 then (if 48 ≤ sx_at n tx ((i7 + 2 : Nat) : Int) ∧ sx_at n tx ((i7 + 2 : Nat) : Int) ≤ 53 then (if 49 ≤ sx_at n tx ((i7 + 3 : Nat) : Int) ∧ sx_at n tx ((i7 + 3 : Nat) : Int) ≤ 51 then -1 else ((i7 + 3 : Nat) : Int)) else ((i7 + 2 : Nat) : Int)) else ((i7 + 1 : Nat) : Int) := by
  unfold sx_fc
  rw [h, if_pos (by decide), show sx_len 99 = 3 from rfl]
  simp only [sx_fl, sx_al]
  simp
theorem mz_fc_w {n i7 : Nat} {tx : Nat → Int} (h : sx_at n tx (i7 : Int) = 119) : sx_fc n tx i7 = if 48 ≤ sx_at n tx ((i7 + 1 : Nat) : Int) ∧ sx_at n tx ((i7 + 1 : Nat) : Int) ≤ 53 then -1 else ((i7 + 1 : Nat) : Int) := by
  unfold sx_fc
  rw [h, if_pos (by decide), show sx_len 119 = 1 from rfl]
  simp only [sx_fl, sx_al]
  simp
theorem mz_fc_g {n i7 : Nat} {tx : Nat → Int} (h : sx_at n tx (i7 : Int) = 103) : sx_fc n tx i7 = if 48 ≤ sx_at n tx ((i7 + 1 : Nat) : Int) ∧ sx_at n tx ((i7 + 1 : Nat) : Int) ≤ 50 then -1 else ((i7 + 1 : Nat) : Int) := by
  unfold sx_fc
  rw [h, if_pos (by decide), show sx_len 103 = 1 from rfl]
  simp only [sx_fl, sx_al]
  simp
theorem mz_fc_p {n i7 : Nat} {tx : Nat → Int} (h : sx_at n tx (i7 : Int) = 112) : sx_fc n tx i7 = -1 := by
  unfold sx_fc
  rw [h, if_pos (by decide), show sx_len 112 = 0 from rfl]
  rfl
theorem mz_fc_b {n i7 : Nat} {tx : Nat → Int} (h : sx_at n tx (i7 : Int) = 98) : sx_fc n tx i7 = -1 := by
  unfold sx_fc
  rw [h, if_pos (by decide), show sx_len 98 = 0 from rfl]
  rfl
theorem mz_fc_o {n i7 : Nat} {tx : Nat → Int} (h : ¬ (sx_at n tx (i7 : Int) = 99 ∨ sx_at n tx (i7 : Int) = 119 ∨ sx_at n tx (i7 : Int) = 103 ∨ sx_at n tx (i7 : Int) = 112 ∨ sx_at n tx (i7 : Int) = 98)) : sx_fc n tx i7 = (i7 : Int) := by
  unfold sx_fc
  rw [if_neg]
  intro q
  exact h (of_decide_eq_true q)
theorem mz_lk (d : Int) : ∀ (ps : List (Int × Int)) (x : Int), (∀ p ∈ ps, ¬ p.1 = x) → Op.lookupswitch.offset ps d x = d
  | [], x, _ => rfl
  | (a, o) :: r, x, h => by
    rw [Op.lookupswitch.offset, if_neg (h (a, o) List.mem_cons_self)]
    exact mz_lk d r x (fun p hp => h p (List.mem_cons_of_mem _ hp))
theorem mz_atl {n : Nat} {tx : Nat → Int} {z : Int} (h : 48 ≤ sx_at n tx z) : 0 ≤ z ∧ z < (n : Int) := by
  unfold sx_at at h
  split at h
  · assumption
  · omega

set_option maxHeartbeats 4000000 in
set_option maxRecDepth 100000 in
theorem k_X9_readCommand (l : Launch) (D : va_G) (dA : Nat → ClassId) (m9 xt nw tr di ke ik wt : Nat) (rf : Int) (n : Nat) (ac ld : Int) (i7 : Nat) (ou : Int) (tx : Nat → Int) (hn : n ≤ 120) (hr : sx_rg tx) (hi : i7 < n) (g : Nat → Int) (hg : WF g) (wv : Nat → Int) (hl : mz_LW ld wv) : hv_Ct l yX9_readCommand (hw_W yX9_readCommand cX9_readCommand 6 (some .boolean)) 10 D dA [.ref m9, .ref tr] ([(m9, .inr (7, [.int (zI (rf)), .ref xt, .int (zI ((n : Int))), .ref nw, .ref tr, .ref di, .int (zI (ac)), .ref ke, .ref ik, .ref wt, .int (zI (ld)), .int (zI ((i7 : Int))), .int (zI (ou))])), (xt, .inl (dA 0, 120, .inl (fun i => zI (tx i)))), (tr, .inl (dA 0, 12, .inl (fun i => zI (g i)))), (wt, .inl (dA 0, 4096, .inl (fun i => zI (wv i))))]) 0 0 (S := Nat × (Nat → Int) × Int × Int × (Nat → Int)) (fun _ => some (.int (zI (zB (decide (sx_fc n tx i7 = -1)))))) (fun u => mz_LW u.2.2.2.1 u.2.2.2.2 ∧ (sx_fc n tx i7 = -1 → u.1 = i7 + 1 + sx_len (sx_at n tx (i7 : Int)) ∧ u.2.1 = ox_cm g (sx_at n tx (i7 : Int)) (sx_at n tx ((i7 + 1 : Nat) : Int) - 48) (sx_at n tx ((i7 + 2 : Nat) : Int) - 48) (sx_at n tx ((i7 + 3 : Nat) : Int) - 48) ∧ u.2.2.1 = ou + (if ox_cmb g (sx_at n tx (i7 : Int)) (sx_at n tx ((i7 + 1 : Nat) : Int) - 48) (sx_at n tx ((i7 + 2 : Nat) : Int) - 48) (sx_at n tx ((i7 + 3 : Nat) : Int) - 48) = true then 0 else 1)) ∧ (¬ sx_fc n tx i7 = -1 → (u.1 : Int) = sx_fc n tx i7)) (fun u => [(m9, .inr (7, [.int (zI (rf)), .ref xt, .int (zI ((n : Int))), .ref nw, .ref tr, .ref di, .int (zI (ac)), .ref ke, .ref ik, .ref wt, .int (zI (u.2.2.2.1)), .int (zI ((u.1 : Int))), .int (zI (u.2.2.1))])), (xt, .inl (dA 0, 120, .inl (fun i => zI (tx i)))), (tr, .inl (dA 0, 12, .inl (fun i => zI (u.2.1 i)))), (wt, .inl (dA 0, 4096, .inl (fun i => zI (u.2.2.2.2 i))))]) := by
  have hg0 := hg.1
  have hg1 := hg.e1
  have hgx := hg.x
  have hg5 := hg.2.2.2.2.2
  have hgR := hg.R
  have hgS := hg.S
  have hge0 := hg.e0
  have hge5 := hg.e5
  have hat : sx_at n tx (i7 : Int) = tx i7 := by rw [sx_at_in (by omega), Int.toNat_natCast]
  have hri := hr i7
  have hg2 := hg.2.2.1
  have hg3 := hg.2.2.2.1
  refine hv_of (cc := cX9_readCommand) (maxL := 6) (ret := (some .boolean)) (own := RX9) rfl (by decide) rfl (Nat.le_of_ble_eq_true rfl) ?_
  intro p e s m args below meth c C M
  refine hv_lveq (lv' := [(0, .ref m9), (1, .ref tr)]) rfl ?_
  refine hv_aload_n C dX9_readCommand_0 0 rfl ?_
  refine hv_get C dX9_readCommand_1 (fun w h => hw_c (tw_u_9 w h)) 0 (ci := 7) rfl rfl 1 (by decide) (hw_c tw_f_RX9_7) rfl ?_
  refine hv_aload_n C dX9_readCommand_4 0 rfl ?_
  refine hv_get C dX9_readCommand_5 (fun w h => hw_c (tw_u_9 w h)) 0 (ci := 7) rfl rfl 11 (by decide) (hw_c tw_f_RX9_126) rfl ?_
  refine hv_iald C dX9_readCommand_8 1 rfl (i7) (zI_nat _) (by omega) (by omega) (v := (zI (tx i7))) rfl ?_
  refine hv_istore_n C dX9_readCommand_9 (lw := [(2, .int (zI (tx i7))), (0, .ref m9), (1, .ref tr)]) (by decide) rfl ?_
  refine hv_aload_n C dX9_readCommand_10 1 rfl ?_
  refine hv_dup C dX9_readCommand_11 rfl ?_
  refine hv_get C dX9_readCommand_12 (fun w h => hw_c (tw_u_9 w h)) 0 (ci := 7) rfl rfl 11 (by decide) (hw_c tw_f_RX9_126) rfl ?_
  refine hv_iconst C dX9_readCommand_15 (v := zI (1)) rfl ?_
  refine hv_iadd C dX9_readCommand_16 (z := zI (((i7 + 1 : Nat) : Int))) ((zI_add _ _).trans (zI_c (by omega))) ?_
  refine hv_put C dX9_readCommand_17 (fun w h => hw_c (tw_u_9 w h)) tyX9 tyX9_ok nmX9 0 (ci := 7) (ty := .int) rfl rfl 11 (by decide) (hw_c tw_f_RX9_126) rfl rfl rfl rfl (Nat.le_of_ble_eq_true rfl) ?_
  refine hv_weq (ws' := [(m9, .inr (7, [.int (zI (rf)), .ref xt, .int (zI ((n : Int))), .ref nw, .ref tr, .ref di, .int (zI (ac)), .ref ke, .ref ik, .ref wt, .int (zI (ld)), .int (zI (((i7 + 1 : Nat) : Int))), .int (zI (ou))])), (xt, .inl (dA 0, 120, .inl (fun i => zI (tx i)))), (tr, .inl (dA 0, 12, .inl (fun i => zI (g i)))), (wt, .inl (dA 0, 4096, .inl (fun i => zI (wv i))))]) rfl ?_
  refine hv_iload_n C dX9_readCommand_20 0 rfl ?_
  by_cases hq0 : sx_at n tx (i7 : Int) = 99 ∨ sx_at n tx (i7 : Int) = 119 ∨ sx_at n tx (i7 : Int) = 103 ∨ sx_at n tx (i7 : Int) = 112 ∨ sx_at n tx (i7 : Int) = 98
  · rcases (show sx_at n tx (i7 : Int) = 98 ∨ sx_at n tx (i7 : Int) = 99 ∨ sx_at n tx (i7 : Int) = 103 ∨ sx_at n tx (i7 : Int) = 112 ∨ sx_at n tx (i7 : Int) = 119 by omega) with hq | hq | hq | hq | hq
    · refine hv_topi (y := zI (98)) (by rw [← hat, hq]) ?_
      refine hv_lookup C dX9_readCommand_21 (by decide) (off := 232) (by decide) (tgt := 253) (by decide) ?_
      have hcm : ∀ a b k, ox_cm g (sx_at n tx (i7 : Int)) a b k = ox_tb g := fun a b k => by rw [hq]; unfold ox_cm; rw [if_neg (by decide), if_neg (by decide), if_neg (by decide), if_neg (by decide), if_pos rfl]
      have hcb : ∀ a b k, ox_cmb g (sx_at n tx (i7 : Int)) a b k = ox_isb g := fun a b k => by rw [hq]; unfold ox_cmb; rw [if_neg (by decide), if_neg (by decide), if_neg (by decide), if_neg (by decide), if_pos rfl]
      have hln : sx_len (sx_at n tx (i7 : Int)) = 0 := by rw [hq]; rfl
      refine hv_aload_n C dX9_readCommand_253 1 rfl ?_
      refine hv_aload_n C dX9_readCommand_254 1 rfl ?_
      refine hv_aload_n C dX9_readCommand_255 2 rfl ?_
      refine hv_callV (As := [.ref tr]) (rest := [.ref m9]) (wc := [(m9, .inr (7, [.int (zI (rf)), .ref xt, .int (zI ((n : Int))), .ref nw, .ref tr, .ref di, .int (zI (ac)), .ref ke, .ref ik, .ref wt, .int (zI (ld)), .int (zI (((i7 + 1 : Nat) : Int))), .int (zI (ou))])), (tr, .inl (dA 0, 12, .inl (fun i => zI (g i)))), (wt, .inl (dA 0, 4096, .inl (fun i => zI (wv i))))]) (wr := [(xt, .inl (dA 0, 120, .inl (fun i => zI (tx i))))]) C (k_X9_bestOn l D dA m9 xt nw tr di ke ik wt rf (n : Int) ac ld (((i7 + 1 : Nat) : Int)) ou tr g hg wv hl) (cwV 1 C.1.2.2.2.2 (hw_V tw_m_RX9_152 tw_i_X9_bestOn tw_s_X9_bestOn tw_n_RX9 tw_k_X9_bestOn) rfl rfl rfl (by decide +kernel) ⟨Nat.le_of_ble_eq_true rfl, Nat.le_of_ble_eq_true rfl⟩) (hv_pm [0, 1, 1] rfl) rfl 0 7 rfl rfl rfl (Nat.le_of_ble_eq_true rfl) dX9_readCommand_256 ⟨Nat.le_of_ble_eq_true rfl, Nat.le_of_ble_eq_true rfl⟩ (fun u7 hu7 => ?_)
      refine hv_eqst (st' := [.int (zI (zB (ox_isb g))), .ref m9]) rfl ?_
      refine hv_weq (ws' := [(m9, .inr (7, [.int (zI (rf)), .ref xt, .int (zI ((n : Int))), .ref nw, .ref tr, .ref di, .int (zI (ac)), .ref ke, .ref ik, .ref wt, .int (zI (mz_key g)), .int (zI (((i7 + 1 : Nat) : Int))), .int (zI (ou))])), (tr, .inl (dA 0, 12, .inl (fun i => zI ((ox_tb g) i)))), (wt, .inl (dA 0, 4096, .inl (fun i => zI (u7 i)))), (xt, .inl (dA 0, 120, .inl (fun i => zI (tx i))))]) (rfl) ?_
      refine hv_srt [0, 2, 0, 0] (ws' := [(m9, .inr (7, [.int (zI (rf)), .ref xt, .int (zI ((n : Int))), .ref nw, .ref tr, .ref di, .int (zI (ac)), .ref ke, .ref ik, .ref wt, .int (zI (mz_key g)), .int (zI (((i7 + 1 : Nat) : Int))), .int (zI (ou))])), (xt, .inl (dA 0, 120, .inl (fun i => zI (tx i)))), (tr, .inl (dA 0, 12, .inl (fun i => zI ((ox_tb g) i)))), (wt, .inl (dA 0, 4096, .inl (fun i => zI (u7 i))))]) rfl ?_
      refine hv_callV (As := [.int (zI (zB (ox_isb g)))]) (rest := []) (wc := [(m9, .inr (7, [.int (zI (rf)), .ref xt, .int (zI ((n : Int))), .ref nw, .ref tr, .ref di, .int (zI (ac)), .ref ke, .ref ik, .ref wt, .int (zI (mz_key g)), .int (zI (((i7 + 1 : Nat) : Int))), .int (zI (ou))]))]) (wr := [(xt, .inl (dA 0, 120, .inl (fun i => zI (tx i)))), (tr, .inl (dA 0, 12, .inl (fun i => zI ((ox_tb g) i)))), (wt, .inl (dA 0, 4096, .inl (fun i => zI (u7 i))))]) C (k_X9_done l D dA m9 xt nw tr di ke ik wt rf (n : Int) ac (mz_key g) (((i7 + 1 : Nat) : Int)) ou (ox_isb g) rfl) (cwV 1 C.1.2.2.2.2 (hw_V tw_m_RX9_136 tw_i_X9_done tw_s_X9_done tw_n_RX9 tw_k_X9_done) rfl rfl rfl (by decide +kernel) ⟨Nat.le_of_ble_eq_true rfl, Nat.le_of_ble_eq_true rfl⟩) (hv_pm [0] rfl) rfl 0 7 rfl rfl rfl (Nat.le_of_ble_eq_true rfl) dX9_readCommand_259 ⟨Nat.le_of_ble_eq_true rfl, Nat.le_of_ble_eq_true rfl⟩ (fun _ _ => ?_)
      refine hv_eqst (st' := [.int (zI (1))]) rfl ?_
      refine hv_weq (ws' := [(m9, .inr (7, [.int (zI (rf)), .ref xt, .int (zI ((n : Int))), .ref nw, .ref tr, .ref di, .int (zI (ac)), .ref ke, .ref ik, .ref wt, .int (zI (mz_key g)), .int (zI (((i7 + 1 : Nat) : Int))), .int (zI (ou + (if (ox_isb g) = true then 0 else 1)))])), (xt, .inl (dA 0, 120, .inl (fun i => zI (tx i)))), (tr, .inl (dA 0, 12, .inl (fun i => zI ((ox_tb g) i)))), (wt, .inl (dA 0, 4096, .inl (fun i => zI (u7 i))))]) (rfl) ?_
      exact hv_iret C M dX9_readCommand_262 rfl zB_n1 (i7 + 1, (ox_tb g), ou + (if (ox_isb g) = true then 0 else 1), mz_key g, u7) ⟨(mz_LW_new hg hu7), fun _ => ⟨by dsimp only; omega, ((hcm _ _ _).trans (rfl)).symm, by rw [(hcb _ _ _).trans (rfl)]⟩, fun q => absurd (mz_fc_b hq) q⟩ (hv_rv (zB_T (mz_fc_b hq))) [] (List.Perm.of_eq (by first | rfl | exact (List.append_nil _).symm)) (Nat.le_refl _) (Nat.le_refl _)
    · refine hv_topi (y := zI (99)) (by rw [← hat, hq]) ?_
      refine hv_lookup C dX9_readCommand_21 (by decide) (off := 51) (by decide) (tgt := 72) (by decide) ?_
      have hcm : ∀ a b k, ox_cm g (sx_at n tx (i7 : Int)) a b k = ox_tc g a b k := fun a b k => by rw [hq]; unfold ox_cm; rw [if_pos rfl]
      have hcb : ∀ a b k, ox_cmb g (sx_at n tx (i7 : Int)) a b k = ox_can g a b k := fun a b k => by rw [hq]; unfold ox_cmb; rw [if_pos rfl]
      have hln : sx_len (sx_at n tx (i7 : Int)) = 3 := by rw [hq]; rfl
      refine hv_aload_n C dX9_readCommand_72 1 rfl ?_
      refine hv_iconst C dX9_readCommand_73 (v := zI (0)) rfl ?_
      refine hv_iconst C dX9_readCommand_74 (v := zI (0)) rfl ?_
      refine hv_iconst C dX9_readCommand_75 (v := zI (5)) rfl ?_
      by_cases hd1 : (0 : Int) ≤ sx_at n tx ((i7 + 1 : Nat) : Int) - 48 ∧ sx_at n tx ((i7 + 1 : Nat) : Int) - 48 ≤ 5
      · refine hv_callV (As := [.int (zI (0)), .int (zI (0)), .int (zI (5))]) (rest := []) (wc := [(m9, .inr (7, [.int (zI (rf)), .ref xt, .int (zI ((n : Int))), .ref nw, .ref tr, .ref di, .int (zI (ac)), .ref ke, .ref ik, .ref wt, .int (zI (ld)), .int (zI (((i7 + 1 : Nat) : Int))), .int (zI (ou))])), (xt, .inl (dA 0, 120, .inl (fun i => zI (tx i))))]) (wr := [(tr, .inl (dA 0, 12, .inl (fun i => zI (g i)))), (wt, .inl (dA 0, 4096, .inl (fun i => zI (wv i))))]) C (k_X9_digit_t l D dA m9 xt nw tr di ke ik wt rf n ac ld (i7 + 1) ou tx hn hr (by omega) (0) 0 5 (by omega) (by omega) (by omega) ⟨by omega, hd1⟩) (cwV 3 C.1.2.2.2.2 (hw_V tw_m_RX9_132 tw_i_X9_digit tw_s_X9_digit tw_n_RX9 tw_k_X9_digit) rfl rfl rfl (by decide +kernel) ⟨Nat.le_of_ble_eq_true rfl, Nat.le_of_ble_eq_true rfl⟩) (hv_pm [0, 0] rfl) rfl 0 7 rfl rfl rfl (Nat.le_of_ble_eq_true rfl) dX9_readCommand_76 ⟨Nat.le_of_ble_eq_true rfl, Nat.le_of_ble_eq_true rfl⟩ (fun _ _ => ?_)
        refine hv_eqst (st' := [.int (zI (sx_at n tx ((i7 + 1 : Nat) : Int) - 48))]) rfl ?_
        refine hv_weq (ws' := [(m9, .inr (7, [.int (zI (rf)), .ref xt, .int (zI ((n : Int))), .ref nw, .ref tr, .ref di, .int (zI (ac)), .ref ke, .ref ik, .ref wt, .int (zI (ld)), .int (zI (((i7 + 2 : Nat) : Int))), .int (zI (ou))])), (xt, .inl (dA 0, 120, .inl (fun i => zI (tx i)))), (tr, .inl (dA 0, 12, .inl (fun i => zI (g i)))), (wt, .inl (dA 0, 4096, .inl (fun i => zI (wv i))))]) (rfl) ?_
        refine hv_istore_n C dX9_readCommand_79 (lw := [(3, .int (zI (sx_at n tx ((i7 + 1 : Nat) : Int) - 48))), (2, .int (zI (tx i7))), (0, .ref m9), (1, .ref tr)]) (by decide) rfl ?_
        refine hv_aload_n C dX9_readCommand_80 2 rfl ?_
        refine hv_iload_n C dX9_readCommand_81 0 rfl ?_
        refine hv_iconst C dX9_readCommand_82 (v := zI (0)) rfl ?_
        refine hv_iconst C dX9_readCommand_83 (v := zI (5)) rfl ?_
        by_cases hd2 : (0 : Int) ≤ sx_at n tx ((i7 + 2 : Nat) : Int) - 48 ∧ sx_at n tx ((i7 + 2 : Nat) : Int) - 48 ≤ 5
        · refine hv_callV (As := [.int (zI (sx_at n tx ((i7 + 1 : Nat) : Int) - 48)), .int (zI (0)), .int (zI (5))]) (rest := []) (wc := [(m9, .inr (7, [.int (zI (rf)), .ref xt, .int (zI ((n : Int))), .ref nw, .ref tr, .ref di, .int (zI (ac)), .ref ke, .ref ik, .ref wt, .int (zI (ld)), .int (zI (((i7 + 2 : Nat) : Int))), .int (zI (ou))])), (xt, .inl (dA 0, 120, .inl (fun i => zI (tx i))))]) (wr := [(tr, .inl (dA 0, 12, .inl (fun i => zI (g i)))), (wt, .inl (dA 0, 4096, .inl (fun i => zI (wv i))))]) C (k_X9_digit_t l D dA m9 xt nw tr di ke ik wt rf n ac ld (i7 + 2) ou tx hn hr (by omega) (sx_at n tx ((i7 + 1 : Nat) : Int) - 48) 0 5 (by omega) (by omega) (by omega) ⟨by omega, hd2⟩) (cwV 3 C.1.2.2.2.2 (hw_V tw_m_RX9_132 tw_i_X9_digit tw_s_X9_digit tw_n_RX9 tw_k_X9_digit) rfl rfl rfl (by decide +kernel) ⟨Nat.le_of_ble_eq_true rfl, Nat.le_of_ble_eq_true rfl⟩) (hv_pm [0, 0] rfl) rfl 0 7 rfl rfl rfl (Nat.le_of_ble_eq_true rfl) dX9_readCommand_84 ⟨Nat.le_of_ble_eq_true rfl, Nat.le_of_ble_eq_true rfl⟩ (fun _ _ => ?_)
          refine hv_eqst (st' := [.int (zI (sx_at n tx ((i7 + 2 : Nat) : Int) - 48))]) rfl ?_
          refine hv_weq (ws' := [(m9, .inr (7, [.int (zI (rf)), .ref xt, .int (zI ((n : Int))), .ref nw, .ref tr, .ref di, .int (zI (ac)), .ref ke, .ref ik, .ref wt, .int (zI (ld)), .int (zI (((i7 + 3 : Nat) : Int))), .int (zI (ou))])), (xt, .inl (dA 0, 120, .inl (fun i => zI (tx i)))), (tr, .inl (dA 0, 12, .inl (fun i => zI (g i)))), (wt, .inl (dA 0, 4096, .inl (fun i => zI (wv i))))]) (rfl) ?_
          refine hv_istore C dX9_readCommand_87 (lw := [(4, .int (zI (sx_at n tx ((i7 + 2 : Nat) : Int) - 48))), (3, .int (zI (sx_at n tx ((i7 + 1 : Nat) : Int) - 48))), (2, .int (zI (tx i7))), (0, .ref m9), (1, .ref tr)]) (by decide) rfl ?_
          refine hv_aload_n C dX9_readCommand_89 3 rfl ?_
          refine hv_iload C dX9_readCommand_90 0 rfl ?_
          refine hv_iconst C dX9_readCommand_92 (v := zI (1)) rfl ?_
          refine hv_iconst C dX9_readCommand_93 (v := zI (3)) rfl ?_
          by_cases hd3 : (1 : Int) ≤ sx_at n tx ((i7 + 3 : Nat) : Int) - 48 ∧ sx_at n tx ((i7 + 3 : Nat) : Int) - 48 ≤ 3
          · refine hv_callV (As := [.int (zI (sx_at n tx ((i7 + 2 : Nat) : Int) - 48)), .int (zI (1)), .int (zI (3))]) (rest := []) (wc := [(m9, .inr (7, [.int (zI (rf)), .ref xt, .int (zI ((n : Int))), .ref nw, .ref tr, .ref di, .int (zI (ac)), .ref ke, .ref ik, .ref wt, .int (zI (ld)), .int (zI (((i7 + 3 : Nat) : Int))), .int (zI (ou))])), (xt, .inl (dA 0, 120, .inl (fun i => zI (tx i))))]) (wr := [(tr, .inl (dA 0, 12, .inl (fun i => zI (g i)))), (wt, .inl (dA 0, 4096, .inl (fun i => zI (wv i))))]) C (k_X9_digit_t l D dA m9 xt nw tr di ke ik wt rf n ac ld (i7 + 3) ou tx hn hr (by omega) (sx_at n tx ((i7 + 2 : Nat) : Int) - 48) 1 3 (by omega) (by omega) (by omega) ⟨by omega, hd3⟩) (cwV 3 C.1.2.2.2.2 (hw_V tw_m_RX9_132 tw_i_X9_digit tw_s_X9_digit tw_n_RX9 tw_k_X9_digit) rfl rfl rfl (by decide +kernel) ⟨Nat.le_of_ble_eq_true rfl, Nat.le_of_ble_eq_true rfl⟩) (hv_pm [0, 0] rfl) rfl 0 7 rfl rfl rfl (Nat.le_of_ble_eq_true rfl) dX9_readCommand_94 ⟨Nat.le_of_ble_eq_true rfl, Nat.le_of_ble_eq_true rfl⟩ (fun _ _ => ?_)
            refine hv_eqst (st' := [.int (zI (sx_at n tx ((i7 + 3 : Nat) : Int) - 48))]) rfl ?_
            refine hv_weq (ws' := [(m9, .inr (7, [.int (zI (rf)), .ref xt, .int (zI ((n : Int))), .ref nw, .ref tr, .ref di, .int (zI (ac)), .ref ke, .ref ik, .ref wt, .int (zI (ld)), .int (zI (((i7 + 4 : Nat) : Int))), .int (zI (ou))])), (xt, .inl (dA 0, 120, .inl (fun i => zI (tx i)))), (tr, .inl (dA 0, 12, .inl (fun i => zI (g i)))), (wt, .inl (dA 0, 4096, .inl (fun i => zI (wv i))))]) (rfl) ?_
            refine hv_istore C dX9_readCommand_97 (lw := [(5, .int (zI (sx_at n tx ((i7 + 3 : Nat) : Int) - 48))), (4, .int (zI (sx_at n tx ((i7 + 2 : Nat) : Int) - 48))), (3, .int (zI (sx_at n tx ((i7 + 1 : Nat) : Int) - 48))), (2, .int (zI (tx i7))), (0, .ref m9), (1, .ref tr)]) (by decide) rfl ?_
            refine hv_iload C dX9_readCommand_99 0 rfl ?_
            refine hv_iconst C dX9_readCommand_101 (v := zI (-1)) rfl ?_
            refine hv_icmp_eq C dX9_readCommand_102 (tgt := 148) (by decide) (zI_eq (by omega)) (fun hc102 => ?_) (fun hc102 => ?_)
            · exact absurd hc102 (by omega)
            · refine hv_aload_n C dX9_readCommand_105 4 rfl ?_
              refine hv_aload_n C dX9_readCommand_106 5 rfl ?_
              refine hv_aload_n C dX9_readCommand_107 5 rfl ?_
              refine hv_iconst C dX9_readCommand_108 (v := zI (1)) rfl ?_
              refine hv_iald C dX9_readCommand_109 2 rfl (1) (rfl) (by omega) (by omega) (v := (zI (g 1))) rfl ?_
              refine hv_iload_n C dX9_readCommand_110 2 rfl ?_
              refine hv_iload C dX9_readCommand_111 1 rfl ?_
              refine hv_iload C dX9_readCommand_113 0 rfl ?_
              refine hv_callS (As := [.ref tr, .int (zI (g 1)), .int (zI (sx_at n tx ((i7 + 1 : Nat) : Int) - 48)), .int (zI (sx_at n tx ((i7 + 2 : Nat) : Int) - 48)), .int (zI (sx_at n tx ((i7 + 3 : Nat) : Int) - 48))]) (rest := [.ref m9]) (wc := [(tr, .inl (dA 0, 12, .inl (fun i => zI (g i))))]) (wr := [(m9, .inr (7, [.int (zI (rf)), .ref xt, .int (zI ((n : Int))), .ref nw, .ref tr, .ref di, .int (zI (ac)), .ref ke, .ref ik, .ref wt, .int (zI (ld)), .int (zI (((i7 + 4 : Nat) : Int))), .int (zI (ou))])), (xt, .inl (dA 0, 120, .inl (fun i => zI (tx i)))), (wt, .inl (dA 0, 4096, .inl (fun i => zI (wv i))))]) C (k_X9_canClip l D dA tr g hg (gH g) hg.e1 hg.x (sx_at n tx ((i7 + 1 : Nat) : Int) - 48) (by omega) (sx_at n tx ((i7 + 2 : Nat) : Int) - 48) (by omega) (sx_at n tx ((i7 + 3 : Nat) : Int) - 48) (by omega)) (va_cwS 5 C.1.2.2.2.2 (hw_S tw_m_RX9_80 tw_t_X9_canClip tw_n_RX9 tw_k_X9_canClip) rfl rfl rfl (by decide +kernel) ⟨Nat.le_of_ble_eq_true rfl, Nat.le_of_ble_eq_true rfl⟩) (hv_pm [2] rfl) rfl rfl (Nat.le_of_ble_eq_true rfl) dX9_readCommand_115 ⟨Nat.le_of_ble_eq_true rfl, Nat.le_of_ble_eq_true rfl⟩ (fun _ _ => ?_)
              refine hv_eqst (st' := [.int (zI (zB (ox_can g (sx_at n tx ((i7 + 1 : Nat) : Int) - 48) (sx_at n tx ((i7 + 2 : Nat) : Int) - 48) (sx_at n tx ((i7 + 3 : Nat) : Int) - 48)))), .ref m9]) rfl ?_
              refine hv_weq (ws' := [(tr, .inl (dA 0, 12, .inl (fun i => zI (g i)))), (m9, .inr (7, [.int (zI (rf)), .ref xt, .int (zI ((n : Int))), .ref nw, .ref tr, .ref di, .int (zI (ac)), .ref ke, .ref ik, .ref wt, .int (zI (ld)), .int (zI (((i7 + 4 : Nat) : Int))), .int (zI (ou))])), (xt, .inl (dA 0, 120, .inl (fun i => zI (tx i)))), (wt, .inl (dA 0, 4096, .inl (fun i => zI (wv i))))]) (rfl) ?_
              refine hv_srt [1, 1, 0, 0] (ws' := [(m9, .inr (7, [.int (zI (rf)), .ref xt, .int (zI ((n : Int))), .ref nw, .ref tr, .ref di, .int (zI (ac)), .ref ke, .ref ik, .ref wt, .int (zI (ld)), .int (zI (((i7 + 4 : Nat) : Int))), .int (zI (ou))])), (xt, .inl (dA 0, 120, .inl (fun i => zI (tx i)))), (tr, .inl (dA 0, 12, .inl (fun i => zI (g i)))), (wt, .inl (dA 0, 4096, .inl (fun i => zI (wv i))))]) rfl ?_
              refine hv_if_eq C dX9_readCommand_118 (tgt := 137) (by decide) zB_e (fun hc118 => ?_) (fun hc118 => ?_)
              · refine hv_iconst C dX9_readCommand_137 (v := zI (0)) rfl ?_
                refine hv_callV (As := [.int (zI (0))]) (rest := []) (wc := [(m9, .inr (7, [.int (zI (rf)), .ref xt, .int (zI ((n : Int))), .ref nw, .ref tr, .ref di, .int (zI (ac)), .ref ke, .ref ik, .ref wt, .int (zI (ld)), .int (zI (((i7 + 4 : Nat) : Int))), .int (zI (ou))]))]) (wr := [(xt, .inl (dA 0, 120, .inl (fun i => zI (tx i)))), (tr, .inl (dA 0, 12, .inl (fun i => zI (g i)))), (wt, .inl (dA 0, 4096, .inl (fun i => zI (wv i))))]) C (k_X9_done l D dA m9 xt nw tr di ke ik wt rf (n : Int) ac (ld) (((i7 + 4 : Nat) : Int)) ou false rfl) (cwV 1 C.1.2.2.2.2 (hw_V tw_m_RX9_136 tw_i_X9_done tw_s_X9_done tw_n_RX9 tw_k_X9_done) rfl rfl rfl (by decide +kernel) ⟨Nat.le_of_ble_eq_true rfl, Nat.le_of_ble_eq_true rfl⟩) (hv_pm [0] rfl) rfl 0 7 rfl rfl rfl (Nat.le_of_ble_eq_true rfl) dX9_readCommand_138 ⟨Nat.le_of_ble_eq_true rfl, Nat.le_of_ble_eq_true rfl⟩ (fun _ _ => ?_)
                refine hv_eqst (st' := [.int (zI (1))]) rfl ?_
                refine hv_weq (ws' := [(m9, .inr (7, [.int (zI (rf)), .ref xt, .int (zI ((n : Int))), .ref nw, .ref tr, .ref di, .int (zI (ac)), .ref ke, .ref ik, .ref wt, .int (zI (ld)), .int (zI (((i7 + 4 : Nat) : Int))), .int (zI (ou + (if false = true then 0 else 1)))])), (xt, .inl (dA 0, 120, .inl (fun i => zI (tx i)))), (tr, .inl (dA 0, 12, .inl (fun i => zI (g i)))), (wt, .inl (dA 0, 4096, .inl (fun i => zI (wv i))))]) (rfl) ?_
                refine hv_if_eq C dX9_readCommand_141 (tgt := 148) (by decide) (zI_eq0 (by omega)) (fun hc141 => ?_) (fun hc141 => ?_)
                · exact absurd hc141 (by omega)
                · refine hv_iconst C dX9_readCommand_144 (v := zI (1)) rfl ?_
                  refine hv_goto C dX9_readCommand_145 (tgt := 149) (by decide) ?_
                  exact hv_iret C M dX9_readCommand_149 rfl zB_n1 (i7 + 4, g, ou + (if false = true then 0 else 1), ld, wv) ⟨hl, fun _ => ⟨by dsimp only; omega, ((hcm _ _ _).trans (mz_tc_f hc118)).symm, by rw [(hcb _ _ _).trans (Bool.eq_false_iff.mpr hc118)]⟩, fun q => absurd (by rw [mz_fc_c hq, if_pos (by omega), if_pos (by omega), if_pos (by omega)]) q⟩ (hv_rv (zB_T (by rw [mz_fc_c hq, if_pos (by omega), if_pos (by omega), if_pos (by omega)]))) [] (List.Perm.of_eq (by first | rfl | exact (List.append_nil _).symm)) (Nat.le_refl _) (Nat.le_refl _)
              · have hcn := Decidable.not_not.mp hc118
                have hct := (ox_can_t hcn).1
                refine hv_aload_n C dX9_readCommand_121 5 rfl ?_
                refine hv_iload_n C dX9_readCommand_122 2 rfl ?_
                refine hv_iload C dX9_readCommand_123 1 rfl ?_
                refine hv_iload C dX9_readCommand_125 0 rfl ?_
                refine hv_callS (As := [.ref tr, .int (zI (sx_at n tx ((i7 + 1 : Nat) : Int) - 48)), .int (zI (sx_at n tx ((i7 + 2 : Nat) : Int) - 48)), .int (zI (sx_at n tx ((i7 + 3 : Nat) : Int) - 48))]) (rest := [.ref m9]) (wc := [(tr, .inl (dA 0, 12, .inl (fun i => zI (g i))))]) (wr := [(m9, .inr (7, [.int (zI (rf)), .ref xt, .int (zI ((n : Int))), .ref nw, .ref tr, .ref di, .int (zI (ac)), .ref ke, .ref ik, .ref wt, .int (zI (ld)), .int (zI (((i7 + 4 : Nat) : Int))), .int (zI (ou))])), (xt, .inl (dA 0, 120, .inl (fun i => zI (tx i)))), (wt, .inl (dA 0, 4096, .inl (fun i => zI (wv i))))]) C (k_X9_clipOn l D dA tr g hg (sx_at n tx ((i7 + 1 : Nat) : Int) - 48).toNat (sx_at n tx ((i7 + 2 : Nat) : Int) - 48).toNat (sx_at n tx ((i7 + 3 : Nat) : Int) - 48).toNat (by omega) (by omega) (by omega) (by omega) (by omega) (by omega)) (va_cwS 4 C.1.2.2.2.2 (hw_S tw_m_RX9_108 tw_t_X9_clipOn tw_n_RX9 tw_k_X9_clipOn) rfl rfl rfl (by decide +kernel) ⟨Nat.le_of_ble_eq_true rfl, Nat.le_of_ble_eq_true rfl⟩) (hv_pm [2] rfl) rfl rfl (Nat.le_of_ble_eq_true rfl) dX9_readCommand_127 ⟨Nat.le_of_ble_eq_true rfl, Nat.le_of_ble_eq_true rfl⟩ (fun _ _ => ?_)
                have hfi := mz_fi0 hg (c := (100 * (sx_at n tx ((i7 + 1 : Nat) : Int) - 48).toNat + 10 * (sx_at n tx ((i7 + 2 : Nat) : Int) - 48).toNat + (sx_at n tx ((i7 + 3 : Nat) : Int) - 48).toNat))
                refine hv_eqst (st' := [.int (zI (sp_fi g (gH g) (sp_bh (gS g) (gW g) (gH g) (100 * (sx_at n tx ((i7 + 1 : Nat) : Int) - 48).toNat + 10 * (sx_at n tx ((i7 + 2 : Nat) : Int) - 48).toNat + (sx_at n tx ((i7 + 3 : Nat) : Int) - 48).toNat)))), .ref m9]) rfl ?_
                refine hv_weq (ws' := [(tr, .inl (dA 0, 12, .inl (fun i => zI ((ox_clip g (100 * (sx_at n tx ((i7 + 1 : Nat) : Int) - 48).toNat + 10 * (sx_at n tx ((i7 + 2 : Nat) : Int) - 48).toNat + (sx_at n tx ((i7 + 3 : Nat) : Int) - 48).toNat)) i)))), (m9, .inr (7, [.int (zI (rf)), .ref xt, .int (zI ((n : Int))), .ref nw, .ref tr, .ref di, .int (zI (ac)), .ref ke, .ref ik, .ref wt, .int (zI (ld)), .int (zI (((i7 + 4 : Nat) : Int))), .int (zI (ou))])), (xt, .inl (dA 0, 120, .inl (fun i => zI (tx i)))), (wt, .inl (dA 0, 4096, .inl (fun i => zI (wv i))))]) (rfl) ?_
                refine hv_srt [1, 1, 0, 0] (ws' := [(m9, .inr (7, [.int (zI (rf)), .ref xt, .int (zI ((n : Int))), .ref nw, .ref tr, .ref di, .int (zI (ac)), .ref ke, .ref ik, .ref wt, .int (zI (ld)), .int (zI (((i7 + 4 : Nat) : Int))), .int (zI (ou))])), (xt, .inl (dA 0, 120, .inl (fun i => zI (tx i)))), (tr, .inl (dA 0, 12, .inl (fun i => zI ((ox_clip g (100 * (sx_at n tx ((i7 + 1 : Nat) : Int) - 48).toNat + 10 * (sx_at n tx ((i7 + 2 : Nat) : Int) - 48).toNat + (sx_at n tx ((i7 + 3 : Nat) : Int) - 48).toNat)) i)))), (wt, .inl (dA 0, 4096, .inl (fun i => zI (wv i))))]) rfl ?_
                refine hv_if_lt C dX9_readCommand_130 (tgt := 137) (by decide) (zI_lt0 (by omega)) (fun hc130 => ?_) (fun hc130 => ?_)
                · exact absurd hc130 (by omega)
                · refine hv_iconst C dX9_readCommand_133 (v := zI (1)) rfl ?_
                  refine hv_goto C dX9_readCommand_134 (tgt := 138) (by decide) ?_
                  refine hv_callV (As := [.int (zI (1))]) (rest := []) (wc := [(m9, .inr (7, [.int (zI (rf)), .ref xt, .int (zI ((n : Int))), .ref nw, .ref tr, .ref di, .int (zI (ac)), .ref ke, .ref ik, .ref wt, .int (zI (ld)), .int (zI (((i7 + 4 : Nat) : Int))), .int (zI (ou))]))]) (wr := [(xt, .inl (dA 0, 120, .inl (fun i => zI (tx i)))), (tr, .inl (dA 0, 12, .inl (fun i => zI ((ox_clip g (100 * (sx_at n tx ((i7 + 1 : Nat) : Int) - 48).toNat + 10 * (sx_at n tx ((i7 + 2 : Nat) : Int) - 48).toNat + (sx_at n tx ((i7 + 3 : Nat) : Int) - 48).toNat)) i)))), (wt, .inl (dA 0, 4096, .inl (fun i => zI (wv i))))]) C (k_X9_done l D dA m9 xt nw tr di ke ik wt rf (n : Int) ac (ld) (((i7 + 4 : Nat) : Int)) ou true rfl) (cwV 1 C.1.2.2.2.2 (hw_V tw_m_RX9_136 tw_i_X9_done tw_s_X9_done tw_n_RX9 tw_k_X9_done) rfl rfl rfl (by decide +kernel) ⟨Nat.le_of_ble_eq_true rfl, Nat.le_of_ble_eq_true rfl⟩) (hv_pm [0] rfl) rfl 0 7 rfl rfl rfl (Nat.le_of_ble_eq_true rfl) dX9_readCommand_138 ⟨Nat.le_of_ble_eq_true rfl, Nat.le_of_ble_eq_true rfl⟩ (fun _ _ => ?_)
                  refine hv_eqst (st' := [.int (zI (1))]) rfl ?_
                  refine hv_weq (ws' := [(m9, .inr (7, [.int (zI (rf)), .ref xt, .int (zI ((n : Int))), .ref nw, .ref tr, .ref di, .int (zI (ac)), .ref ke, .ref ik, .ref wt, .int (zI (ld)), .int (zI (((i7 + 4 : Nat) : Int))), .int (zI (ou + (if true = true then 0 else 1)))])), (xt, .inl (dA 0, 120, .inl (fun i => zI (tx i)))), (tr, .inl (dA 0, 12, .inl (fun i => zI ((ox_clip g (100 * (sx_at n tx ((i7 + 1 : Nat) : Int) - 48).toNat + 10 * (sx_at n tx ((i7 + 2 : Nat) : Int) - 48).toNat + (sx_at n tx ((i7 + 3 : Nat) : Int) - 48).toNat)) i)))), (wt, .inl (dA 0, 4096, .inl (fun i => zI (wv i))))]) (rfl) ?_
                  refine hv_if_eq C dX9_readCommand_141 (tgt := 148) (by decide) (zI_eq0 (by omega)) (fun hc141 => ?_) (fun hc141 => ?_)
                  · exact absurd hc141 (by omega)
                  · refine hv_iconst C dX9_readCommand_144 (v := zI (1)) rfl ?_
                    refine hv_goto C dX9_readCommand_145 (tgt := 149) (by decide) ?_
                    exact hv_iret C M dX9_readCommand_149 rfl zB_n1 (i7 + 4, (ox_clip g (100 * (sx_at n tx ((i7 + 1 : Nat) : Int) - 48).toNat + 10 * (sx_at n tx ((i7 + 2 : Nat) : Int) - 48).toNat + (sx_at n tx ((i7 + 3 : Nat) : Int) - 48).toNat)), ou + (if true = true then 0 else 1), ld, wv) ⟨hl, fun _ => ⟨by dsimp only; omega, ((hcm _ _ _).trans (mz_tc_t hcn)).symm, by rw [(hcb _ _ _).trans (hcn)]⟩, fun q => absurd (by rw [mz_fc_c hq, if_pos (by omega), if_pos (by omega), if_pos (by omega)]) q⟩ (hv_rv (zB_T (by rw [mz_fc_c hq, if_pos (by omega), if_pos (by omega), if_pos (by omega)]))) [] (List.Perm.of_eq (by first | rfl | exact (List.append_nil _).symm)) (Nat.le_refl _) (Nat.le_refl _)
          · refine hv_callV (As := [.int (zI (sx_at n tx ((i7 + 2 : Nat) : Int) - 48)), .int (zI (1)), .int (zI (3))]) (rest := []) (wc := [(m9, .inr (7, [.int (zI (rf)), .ref xt, .int (zI ((n : Int))), .ref nw, .ref tr, .ref di, .int (zI (ac)), .ref ke, .ref ik, .ref wt, .int (zI (ld)), .int (zI (((i7 + 3 : Nat) : Int))), .int (zI (ou))])), (xt, .inl (dA 0, 120, .inl (fun i => zI (tx i))))]) (wr := [(tr, .inl (dA 0, 12, .inl (fun i => zI (g i)))), (wt, .inl (dA 0, 4096, .inl (fun i => zI (wv i))))]) C (k_X9_digit_f l D dA m9 xt nw tr di ke ik wt rf n ac ld (i7 + 3) ou tx hn hr (by omega) (sx_at n tx ((i7 + 2 : Nat) : Int) - 48) 1 3 (by omega) (by omega) (by omega) (fun q => hd3 q.2)) (cwV 3 C.1.2.2.2.2 (hw_V tw_m_RX9_132 tw_i_X9_digit tw_s_X9_digit tw_n_RX9 tw_k_X9_digit) rfl rfl rfl (by decide +kernel) ⟨Nat.le_of_ble_eq_true rfl, Nat.le_of_ble_eq_true rfl⟩) (hv_pm [0, 0] rfl) rfl 0 7 rfl rfl rfl (Nat.le_of_ble_eq_true rfl) dX9_readCommand_94 ⟨Nat.le_of_ble_eq_true rfl, Nat.le_of_ble_eq_true rfl⟩ (fun _ _ => ?_)
            refine hv_eqst (st' := [.int (zI (-1))]) rfl ?_
            refine hv_weq (ws' := [(m9, .inr (7, [.int (zI (rf)), .ref xt, .int (zI ((n : Int))), .ref nw, .ref tr, .ref di, .int (zI (ac)), .ref ke, .ref ik, .ref wt, .int (zI (ld)), .int (zI (((i7 + 3 : Nat) : Int))), .int (zI (ou))])), (xt, .inl (dA 0, 120, .inl (fun i => zI (tx i)))), (tr, .inl (dA 0, 12, .inl (fun i => zI (g i)))), (wt, .inl (dA 0, 4096, .inl (fun i => zI (wv i))))]) (rfl) ?_
            refine hv_istore C dX9_readCommand_97 (lw := [(5, .int (zI (-1))), (4, .int (zI (sx_at n tx ((i7 + 2 : Nat) : Int) - 48))), (3, .int (zI (sx_at n tx ((i7 + 1 : Nat) : Int) - 48))), (2, .int (zI (tx i7))), (0, .ref m9), (1, .ref tr)]) (by decide) rfl ?_
            refine hv_iload C dX9_readCommand_99 0 rfl ?_
            refine hv_iconst C dX9_readCommand_101 (v := zI (-1)) rfl ?_
            refine hv_icmp_eq C dX9_readCommand_102 (tgt := 148) (by decide) (zI_eq (by omega)) (fun hc102 => ?_) (fun hc102 => ?_)
            · refine hv_iconst C dX9_readCommand_148 (v := zI (0)) rfl ?_
              exact hv_iret C M dX9_readCommand_149 rfl zB_n2 (i7 + 3, g, ou, ld, wv) ⟨hl, fun q => absurd q (by rw [show sx_fc n tx i7 = _ from (by rw [mz_fc_c hq, if_pos (by omega), if_pos (by omega), if_neg (by omega)])]; omega), fun _ => (show sx_fc n tx i7 = _ from (by rw [mz_fc_c hq, if_pos (by omega), if_pos (by omega), if_neg (by omega)])).symm⟩ (hv_rv (zB_F (by rw [show sx_fc n tx i7 = _ from (by rw [mz_fc_c hq, if_pos (by omega), if_pos (by omega), if_neg (by omega)])]; omega))) [] (List.Perm.of_eq (by first | rfl | exact (List.append_nil _).symm)) (Nat.le_refl _) (Nat.le_refl _)
            · exact absurd hc102 (by omega)
        · refine hv_callV (As := [.int (zI (sx_at n tx ((i7 + 1 : Nat) : Int) - 48)), .int (zI (0)), .int (zI (5))]) (rest := []) (wc := [(m9, .inr (7, [.int (zI (rf)), .ref xt, .int (zI ((n : Int))), .ref nw, .ref tr, .ref di, .int (zI (ac)), .ref ke, .ref ik, .ref wt, .int (zI (ld)), .int (zI (((i7 + 2 : Nat) : Int))), .int (zI (ou))])), (xt, .inl (dA 0, 120, .inl (fun i => zI (tx i))))]) (wr := [(tr, .inl (dA 0, 12, .inl (fun i => zI (g i)))), (wt, .inl (dA 0, 4096, .inl (fun i => zI (wv i))))]) C (k_X9_digit_f l D dA m9 xt nw tr di ke ik wt rf n ac ld (i7 + 2) ou tx hn hr (by omega) (sx_at n tx ((i7 + 1 : Nat) : Int) - 48) 0 5 (by omega) (by omega) (by omega) (fun q => hd2 q.2)) (cwV 3 C.1.2.2.2.2 (hw_V tw_m_RX9_132 tw_i_X9_digit tw_s_X9_digit tw_n_RX9 tw_k_X9_digit) rfl rfl rfl (by decide +kernel) ⟨Nat.le_of_ble_eq_true rfl, Nat.le_of_ble_eq_true rfl⟩) (hv_pm [0, 0] rfl) rfl 0 7 rfl rfl rfl (Nat.le_of_ble_eq_true rfl) dX9_readCommand_84 ⟨Nat.le_of_ble_eq_true rfl, Nat.le_of_ble_eq_true rfl⟩ (fun _ _ => ?_)
          refine hv_eqst (st' := [.int (zI (-1))]) rfl ?_
          refine hv_weq (ws' := [(m9, .inr (7, [.int (zI (rf)), .ref xt, .int (zI ((n : Int))), .ref nw, .ref tr, .ref di, .int (zI (ac)), .ref ke, .ref ik, .ref wt, .int (zI (ld)), .int (zI (((i7 + 2 : Nat) : Int))), .int (zI (ou))])), (xt, .inl (dA 0, 120, .inl (fun i => zI (tx i)))), (tr, .inl (dA 0, 12, .inl (fun i => zI (g i)))), (wt, .inl (dA 0, 4096, .inl (fun i => zI (wv i))))]) (rfl) ?_
          refine hv_istore C dX9_readCommand_87 (lw := [(4, .int (zI (-1))), (3, .int (zI (sx_at n tx ((i7 + 1 : Nat) : Int) - 48))), (2, .int (zI (tx i7))), (0, .ref m9), (1, .ref tr)]) (by decide) rfl ?_
          refine hv_aload_n C dX9_readCommand_89 3 rfl ?_
          refine hv_iload C dX9_readCommand_90 0 rfl ?_
          refine hv_iconst C dX9_readCommand_92 (v := zI (1)) rfl ?_
          refine hv_iconst C dX9_readCommand_93 (v := zI (3)) rfl ?_
          refine hv_callV (As := [.int (zI (-1)), .int (zI (1)), .int (zI (3))]) (rest := []) (wc := [(m9, .inr (7, [.int (zI (rf)), .ref xt, .int (zI ((n : Int))), .ref nw, .ref tr, .ref di, .int (zI (ac)), .ref ke, .ref ik, .ref wt, .int (zI (ld)), .int (zI (((i7 + 2 : Nat) : Int))), .int (zI (ou))])), (xt, .inl (dA 0, 120, .inl (fun i => zI (tx i))))]) (wr := [(tr, .inl (dA 0, 12, .inl (fun i => zI (g i)))), (wt, .inl (dA 0, 4096, .inl (fun i => zI (wv i))))]) C (k_X9_digit_f l D dA m9 xt nw tr di ke ik wt rf n ac ld (i7 + 2) ou tx hn hr (by omega) (-1) 1 3 (by omega) (by omega) (by omega) (fun q => q.1 rfl)) (cwV 3 C.1.2.2.2.2 (hw_V tw_m_RX9_132 tw_i_X9_digit tw_s_X9_digit tw_n_RX9 tw_k_X9_digit) rfl rfl rfl (by decide +kernel) ⟨Nat.le_of_ble_eq_true rfl, Nat.le_of_ble_eq_true rfl⟩) (hv_pm [0, 0] rfl) rfl 0 7 rfl rfl rfl (Nat.le_of_ble_eq_true rfl) dX9_readCommand_94 ⟨Nat.le_of_ble_eq_true rfl, Nat.le_of_ble_eq_true rfl⟩ (fun _ _ => ?_)
          refine hv_eqst (st' := [.int (zI (-1))]) rfl ?_
          refine hv_weq (ws' := [(m9, .inr (7, [.int (zI (rf)), .ref xt, .int (zI ((n : Int))), .ref nw, .ref tr, .ref di, .int (zI (ac)), .ref ke, .ref ik, .ref wt, .int (zI (ld)), .int (zI (((i7 + 2 : Nat) : Int))), .int (zI (ou))])), (xt, .inl (dA 0, 120, .inl (fun i => zI (tx i)))), (tr, .inl (dA 0, 12, .inl (fun i => zI (g i)))), (wt, .inl (dA 0, 4096, .inl (fun i => zI (wv i))))]) (rfl) ?_
          refine hv_istore C dX9_readCommand_97 (lw := [(5, .int (zI (-1))), (4, .int (zI (-1))), (3, .int (zI (sx_at n tx ((i7 + 1 : Nat) : Int) - 48))), (2, .int (zI (tx i7))), (0, .ref m9), (1, .ref tr)]) (by decide) rfl ?_
          refine hv_iload C dX9_readCommand_99 0 rfl ?_
          refine hv_iconst C dX9_readCommand_101 (v := zI (-1)) rfl ?_
          refine hv_icmp_eq C dX9_readCommand_102 (tgt := 148) (by decide) (zI_eq (by omega)) (fun hc102 => ?_) (fun hc102 => ?_)
          · refine hv_iconst C dX9_readCommand_148 (v := zI (0)) rfl ?_
            exact hv_iret C M dX9_readCommand_149 rfl zB_n2 (i7 + 2, g, ou, ld, wv) ⟨hl, fun q => absurd q (by rw [show sx_fc n tx i7 = _ from (by rw [mz_fc_c hq, if_pos (by omega), if_neg (by omega)])]; omega), fun _ => (show sx_fc n tx i7 = _ from (by rw [mz_fc_c hq, if_pos (by omega), if_neg (by omega)])).symm⟩ (hv_rv (zB_F (by rw [show sx_fc n tx i7 = _ from (by rw [mz_fc_c hq, if_pos (by omega), if_neg (by omega)])]; omega))) [] (List.Perm.of_eq (by first | rfl | exact (List.append_nil _).symm)) (Nat.le_refl _) (Nat.le_refl _)
          · exact absurd hc102 (by omega)
      · refine hv_callV (As := [.int (zI (0)), .int (zI (0)), .int (zI (5))]) (rest := []) (wc := [(m9, .inr (7, [.int (zI (rf)), .ref xt, .int (zI ((n : Int))), .ref nw, .ref tr, .ref di, .int (zI (ac)), .ref ke, .ref ik, .ref wt, .int (zI (ld)), .int (zI (((i7 + 1 : Nat) : Int))), .int (zI (ou))])), (xt, .inl (dA 0, 120, .inl (fun i => zI (tx i))))]) (wr := [(tr, .inl (dA 0, 12, .inl (fun i => zI (g i)))), (wt, .inl (dA 0, 4096, .inl (fun i => zI (wv i))))]) C (k_X9_digit_f l D dA m9 xt nw tr di ke ik wt rf n ac ld (i7 + 1) ou tx hn hr (by omega) (0) 0 5 (by omega) (by omega) (by omega) (fun q => hd1 q.2)) (cwV 3 C.1.2.2.2.2 (hw_V tw_m_RX9_132 tw_i_X9_digit tw_s_X9_digit tw_n_RX9 tw_k_X9_digit) rfl rfl rfl (by decide +kernel) ⟨Nat.le_of_ble_eq_true rfl, Nat.le_of_ble_eq_true rfl⟩) (hv_pm [0, 0] rfl) rfl 0 7 rfl rfl rfl (Nat.le_of_ble_eq_true rfl) dX9_readCommand_76 ⟨Nat.le_of_ble_eq_true rfl, Nat.le_of_ble_eq_true rfl⟩ (fun _ _ => ?_)
        refine hv_eqst (st' := [.int (zI (-1))]) rfl ?_
        refine hv_weq (ws' := [(m9, .inr (7, [.int (zI (rf)), .ref xt, .int (zI ((n : Int))), .ref nw, .ref tr, .ref di, .int (zI (ac)), .ref ke, .ref ik, .ref wt, .int (zI (ld)), .int (zI (((i7 + 1 : Nat) : Int))), .int (zI (ou))])), (xt, .inl (dA 0, 120, .inl (fun i => zI (tx i)))), (tr, .inl (dA 0, 12, .inl (fun i => zI (g i)))), (wt, .inl (dA 0, 4096, .inl (fun i => zI (wv i))))]) (rfl) ?_
        refine hv_istore_n C dX9_readCommand_79 (lw := [(3, .int (zI (-1))), (2, .int (zI (tx i7))), (0, .ref m9), (1, .ref tr)]) (by decide) rfl ?_
        refine hv_aload_n C dX9_readCommand_80 2 rfl ?_
        refine hv_iload_n C dX9_readCommand_81 0 rfl ?_
        refine hv_iconst C dX9_readCommand_82 (v := zI (0)) rfl ?_
        refine hv_iconst C dX9_readCommand_83 (v := zI (5)) rfl ?_
        refine hv_callV (As := [.int (zI (-1)), .int (zI (0)), .int (zI (5))]) (rest := []) (wc := [(m9, .inr (7, [.int (zI (rf)), .ref xt, .int (zI ((n : Int))), .ref nw, .ref tr, .ref di, .int (zI (ac)), .ref ke, .ref ik, .ref wt, .int (zI (ld)), .int (zI (((i7 + 1 : Nat) : Int))), .int (zI (ou))])), (xt, .inl (dA 0, 120, .inl (fun i => zI (tx i))))]) (wr := [(tr, .inl (dA 0, 12, .inl (fun i => zI (g i)))), (wt, .inl (dA 0, 4096, .inl (fun i => zI (wv i))))]) C (k_X9_digit_f l D dA m9 xt nw tr di ke ik wt rf n ac ld (i7 + 1) ou tx hn hr (by omega) (-1) 0 5 (by omega) (by omega) (by omega) (fun q => q.1 rfl)) (cwV 3 C.1.2.2.2.2 (hw_V tw_m_RX9_132 tw_i_X9_digit tw_s_X9_digit tw_n_RX9 tw_k_X9_digit) rfl rfl rfl (by decide +kernel) ⟨Nat.le_of_ble_eq_true rfl, Nat.le_of_ble_eq_true rfl⟩) (hv_pm [0, 0] rfl) rfl 0 7 rfl rfl rfl (Nat.le_of_ble_eq_true rfl) dX9_readCommand_84 ⟨Nat.le_of_ble_eq_true rfl, Nat.le_of_ble_eq_true rfl⟩ (fun _ _ => ?_)
        refine hv_eqst (st' := [.int (zI (-1))]) rfl ?_
        refine hv_weq (ws' := [(m9, .inr (7, [.int (zI (rf)), .ref xt, .int (zI ((n : Int))), .ref nw, .ref tr, .ref di, .int (zI (ac)), .ref ke, .ref ik, .ref wt, .int (zI (ld)), .int (zI (((i7 + 1 : Nat) : Int))), .int (zI (ou))])), (xt, .inl (dA 0, 120, .inl (fun i => zI (tx i)))), (tr, .inl (dA 0, 12, .inl (fun i => zI (g i)))), (wt, .inl (dA 0, 4096, .inl (fun i => zI (wv i))))]) (rfl) ?_
        refine hv_istore C dX9_readCommand_87 (lw := [(4, .int (zI (-1))), (3, .int (zI (-1))), (2, .int (zI (tx i7))), (0, .ref m9), (1, .ref tr)]) (by decide) rfl ?_
        refine hv_aload_n C dX9_readCommand_89 3 rfl ?_
        refine hv_iload C dX9_readCommand_90 0 rfl ?_
        refine hv_iconst C dX9_readCommand_92 (v := zI (1)) rfl ?_
        refine hv_iconst C dX9_readCommand_93 (v := zI (3)) rfl ?_
        refine hv_callV (As := [.int (zI (-1)), .int (zI (1)), .int (zI (3))]) (rest := []) (wc := [(m9, .inr (7, [.int (zI (rf)), .ref xt, .int (zI ((n : Int))), .ref nw, .ref tr, .ref di, .int (zI (ac)), .ref ke, .ref ik, .ref wt, .int (zI (ld)), .int (zI (((i7 + 1 : Nat) : Int))), .int (zI (ou))])), (xt, .inl (dA 0, 120, .inl (fun i => zI (tx i))))]) (wr := [(tr, .inl (dA 0, 12, .inl (fun i => zI (g i)))), (wt, .inl (dA 0, 4096, .inl (fun i => zI (wv i))))]) C (k_X9_digit_f l D dA m9 xt nw tr di ke ik wt rf n ac ld (i7 + 1) ou tx hn hr (by omega) (-1) 1 3 (by omega) (by omega) (by omega) (fun q => q.1 rfl)) (cwV 3 C.1.2.2.2.2 (hw_V tw_m_RX9_132 tw_i_X9_digit tw_s_X9_digit tw_n_RX9 tw_k_X9_digit) rfl rfl rfl (by decide +kernel) ⟨Nat.le_of_ble_eq_true rfl, Nat.le_of_ble_eq_true rfl⟩) (hv_pm [0, 0] rfl) rfl 0 7 rfl rfl rfl (Nat.le_of_ble_eq_true rfl) dX9_readCommand_94 ⟨Nat.le_of_ble_eq_true rfl, Nat.le_of_ble_eq_true rfl⟩ (fun _ _ => ?_)
        refine hv_eqst (st' := [.int (zI (-1))]) rfl ?_
        refine hv_weq (ws' := [(m9, .inr (7, [.int (zI (rf)), .ref xt, .int (zI ((n : Int))), .ref nw, .ref tr, .ref di, .int (zI (ac)), .ref ke, .ref ik, .ref wt, .int (zI (ld)), .int (zI (((i7 + 1 : Nat) : Int))), .int (zI (ou))])), (xt, .inl (dA 0, 120, .inl (fun i => zI (tx i)))), (tr, .inl (dA 0, 12, .inl (fun i => zI (g i)))), (wt, .inl (dA 0, 4096, .inl (fun i => zI (wv i))))]) (rfl) ?_
        refine hv_istore C dX9_readCommand_97 (lw := [(5, .int (zI (-1))), (4, .int (zI (-1))), (3, .int (zI (-1))), (2, .int (zI (tx i7))), (0, .ref m9), (1, .ref tr)]) (by decide) rfl ?_
        refine hv_iload C dX9_readCommand_99 0 rfl ?_
        refine hv_iconst C dX9_readCommand_101 (v := zI (-1)) rfl ?_
        refine hv_icmp_eq C dX9_readCommand_102 (tgt := 148) (by decide) (zI_eq (by omega)) (fun hc102 => ?_) (fun hc102 => ?_)
        · refine hv_iconst C dX9_readCommand_148 (v := zI (0)) rfl ?_
          exact hv_iret C M dX9_readCommand_149 rfl zB_n2 (i7 + 1, g, ou, ld, wv) ⟨hl, fun q => absurd q (by rw [show sx_fc n tx i7 = _ from (by rw [mz_fc_c hq, if_neg (by omega)])]; omega), fun _ => (show sx_fc n tx i7 = _ from (by rw [mz_fc_c hq, if_neg (by omega)])).symm⟩ (hv_rv (zB_F (by rw [show sx_fc n tx i7 = _ from (by rw [mz_fc_c hq, if_neg (by omega)])]; omega))) [] (List.Perm.of_eq (by first | rfl | exact (List.append_nil _).symm)) (Nat.le_refl _) (Nat.le_refl _)
        · exact absurd hc102 (by omega)
    · refine hv_topi (y := zI (103)) (by rw [← hat, hq]) ?_
      refine hv_lookup C dX9_readCommand_21 (by decide) (off := 176) (by decide) (tgt := 197) (by decide) ?_
      have hcm : ∀ a b k, ox_cm g (sx_at n tx (i7 : Int)) a b k = ox_ti g a := fun a b k => by rw [hq]; unfold ox_cm; rw [if_neg (by decide), if_neg (by decide), if_pos rfl]
      have hcb : ∀ a b k, ox_cmb g (sx_at n tx (i7 : Int)) a b k = decide (0 ≤ a ∧ a < 3) := fun a b k => by rw [hq]; unfold ox_cmb; rw [if_neg (by decide), if_neg (by decide), if_pos rfl]
      have hln : sx_len (sx_at n tx (i7 : Int)) = 1 := by rw [hq]; rfl
      refine hv_aload_n C dX9_readCommand_197 1 rfl ?_
      refine hv_iconst C dX9_readCommand_198 (v := zI (0)) rfl ?_
      refine hv_iconst C dX9_readCommand_199 (v := zI (0)) rfl ?_
      refine hv_iconst C dX9_readCommand_200 (v := zI (2)) rfl ?_
      by_cases hd1 : (0 : Int) ≤ sx_at n tx ((i7 + 1 : Nat) : Int) - 48 ∧ sx_at n tx ((i7 + 1 : Nat) : Int) - 48 ≤ 2
      · refine hv_callV (As := [.int (zI (0)), .int (zI (0)), .int (zI (2))]) (rest := []) (wc := [(m9, .inr (7, [.int (zI (rf)), .ref xt, .int (zI ((n : Int))), .ref nw, .ref tr, .ref di, .int (zI (ac)), .ref ke, .ref ik, .ref wt, .int (zI (ld)), .int (zI (((i7 + 1 : Nat) : Int))), .int (zI (ou))])), (xt, .inl (dA 0, 120, .inl (fun i => zI (tx i))))]) (wr := [(tr, .inl (dA 0, 12, .inl (fun i => zI (g i)))), (wt, .inl (dA 0, 4096, .inl (fun i => zI (wv i))))]) C (k_X9_digit_t l D dA m9 xt nw tr di ke ik wt rf n ac ld (i7 + 1) ou tx hn hr (by omega) (0) 0 2 (by omega) (by omega) (by omega) ⟨by omega, hd1⟩) (cwV 3 C.1.2.2.2.2 (hw_V tw_m_RX9_132 tw_i_X9_digit tw_s_X9_digit tw_n_RX9 tw_k_X9_digit) rfl rfl rfl (by decide +kernel) ⟨Nat.le_of_ble_eq_true rfl, Nat.le_of_ble_eq_true rfl⟩) (hv_pm [0, 0] rfl) rfl 0 7 rfl rfl rfl (Nat.le_of_ble_eq_true rfl) dX9_readCommand_201 ⟨Nat.le_of_ble_eq_true rfl, Nat.le_of_ble_eq_true rfl⟩ (fun _ _ => ?_)
        refine hv_eqst (st' := [.int (zI (sx_at n tx ((i7 + 1 : Nat) : Int) - 48))]) rfl ?_
        refine hv_weq (ws' := [(m9, .inr (7, [.int (zI (rf)), .ref xt, .int (zI ((n : Int))), .ref nw, .ref tr, .ref di, .int (zI (ac)), .ref ke, .ref ik, .ref wt, .int (zI (ld)), .int (zI (((i7 + 2 : Nat) : Int))), .int (zI (ou))])), (xt, .inl (dA 0, 120, .inl (fun i => zI (tx i)))), (tr, .inl (dA 0, 12, .inl (fun i => zI (g i)))), (wt, .inl (dA 0, 4096, .inl (fun i => zI (wv i))))]) (rfl) ?_
        refine hv_istore_n C dX9_readCommand_204 (lw := [(3, .int (zI (sx_at n tx ((i7 + 1 : Nat) : Int) - 48))), (2, .int (zI (tx i7))), (0, .ref m9), (1, .ref tr)]) (by decide) rfl ?_
        refine hv_iload_n C dX9_readCommand_205 0 rfl ?_
        refine hv_iconst C dX9_readCommand_206 (v := zI (-1)) rfl ?_
        refine hv_icmp_eq C dX9_readCommand_207 (tgt := 234) (by decide) (zI_eq (by omega)) (fun hc207 => ?_) (fun hc207 => ?_)
        · exact absurd hc207 (by omega)
        · refine hv_aload_n C dX9_readCommand_210 2 rfl ?_
          refine hv_aload_n C dX9_readCommand_211 3 rfl ?_
          refine hv_iload_n C dX9_readCommand_212 0 rfl ?_
          refine hv_callS (As := [.ref tr, .int (zI (sx_at n tx ((i7 + 1 : Nat) : Int) - 48))]) (rest := [.ref m9]) (wc := [(tr, .inl (dA 0, 12, .inl (fun i => zI (g i))))]) (wr := [(m9, .inr (7, [.int (zI (rf)), .ref xt, .int (zI ((n : Int))), .ref nw, .ref tr, .ref di, .int (zI (ac)), .ref ke, .ref ik, .ref wt, .int (zI (ld)), .int (zI (((i7 + 2 : Nat) : Int))), .int (zI (ou))])), (xt, .inl (dA 0, 120, .inl (fun i => zI (tx i)))), (wt, .inl (dA 0, 4096, .inl (fun i => zI (wv i))))]) C (k_X9_windOn l D dA tr g (sx_at n tx ((i7 + 1 : Nat) : Int) - 48)) (va_cwS 2 C.1.2.2.2.2 (hw_S tw_m_RX9_146 tw_t_X9_windOn tw_n_RX9 tw_k_X9_windOn) rfl rfl rfl (by decide +kernel) ⟨Nat.le_of_ble_eq_true rfl, Nat.le_of_ble_eq_true rfl⟩) (hv_pm [2] rfl) rfl rfl (Nat.le_of_ble_eq_true rfl) dX9_readCommand_213 ⟨Nat.le_of_ble_eq_true rfl, Nat.le_of_ble_eq_true rfl⟩ (fun _ _ => ?_)
          refine hv_eqst (st' := [.int (zI (g 2)), .ref m9]) rfl ?_
          refine hv_weq (ws' := [(tr, .inl (dA 0, 12, .inl (fun i => zI ((sp_set g 2 (sx_at n tx ((i7 + 1 : Nat) : Int) - 48)) i)))), (m9, .inr (7, [.int (zI (rf)), .ref xt, .int (zI ((n : Int))), .ref nw, .ref tr, .ref di, .int (zI (ac)), .ref ke, .ref ik, .ref wt, .int (zI (ld)), .int (zI (((i7 + 2 : Nat) : Int))), .int (zI (ou))])), (xt, .inl (dA 0, 120, .inl (fun i => zI (tx i)))), (wt, .inl (dA 0, 4096, .inl (fun i => zI (wv i))))]) (rfl) ?_
          refine hv_srt [1, 1, 0, 0] (ws' := [(m9, .inr (7, [.int (zI (rf)), .ref xt, .int (zI ((n : Int))), .ref nw, .ref tr, .ref di, .int (zI (ac)), .ref ke, .ref ik, .ref wt, .int (zI (ld)), .int (zI (((i7 + 2 : Nat) : Int))), .int (zI (ou))])), (xt, .inl (dA 0, 120, .inl (fun i => zI (tx i)))), (tr, .inl (dA 0, 12, .inl (fun i => zI ((sp_set g 2 (sx_at n tx ((i7 + 1 : Nat) : Int) - 48)) i)))), (wt, .inl (dA 0, 4096, .inl (fun i => zI (wv i))))]) rfl ?_
          refine hv_if_lt C dX9_readCommand_216 (tgt := 223) (by decide) (zI_lt0 (by omega)) (fun hc216 => ?_) (fun hc216 => ?_)
          · exact absurd hc216 (by omega)
          · refine hv_iconst C dX9_readCommand_219 (v := zI (1)) rfl ?_
            refine hv_goto C dX9_readCommand_220 (tgt := 224) (by decide) ?_
            refine hv_callV (As := [.int (zI (1))]) (rest := []) (wc := [(m9, .inr (7, [.int (zI (rf)), .ref xt, .int (zI ((n : Int))), .ref nw, .ref tr, .ref di, .int (zI (ac)), .ref ke, .ref ik, .ref wt, .int (zI (ld)), .int (zI (((i7 + 2 : Nat) : Int))), .int (zI (ou))]))]) (wr := [(xt, .inl (dA 0, 120, .inl (fun i => zI (tx i)))), (tr, .inl (dA 0, 12, .inl (fun i => zI ((sp_set g 2 (sx_at n tx ((i7 + 1 : Nat) : Int) - 48)) i)))), (wt, .inl (dA 0, 4096, .inl (fun i => zI (wv i))))]) C (k_X9_done l D dA m9 xt nw tr di ke ik wt rf (n : Int) ac (ld) (((i7 + 2 : Nat) : Int)) ou true rfl) (cwV 1 C.1.2.2.2.2 (hw_V tw_m_RX9_136 tw_i_X9_done tw_s_X9_done tw_n_RX9 tw_k_X9_done) rfl rfl rfl (by decide +kernel) ⟨Nat.le_of_ble_eq_true rfl, Nat.le_of_ble_eq_true rfl⟩) (hv_pm [0] rfl) rfl 0 7 rfl rfl rfl (Nat.le_of_ble_eq_true rfl) dX9_readCommand_224 ⟨Nat.le_of_ble_eq_true rfl, Nat.le_of_ble_eq_true rfl⟩ (fun _ _ => ?_)
            refine hv_eqst (st' := [.int (zI (1))]) rfl ?_
            refine hv_weq (ws' := [(m9, .inr (7, [.int (zI (rf)), .ref xt, .int (zI ((n : Int))), .ref nw, .ref tr, .ref di, .int (zI (ac)), .ref ke, .ref ik, .ref wt, .int (zI (ld)), .int (zI (((i7 + 2 : Nat) : Int))), .int (zI (ou + (if true = true then 0 else 1)))])), (xt, .inl (dA 0, 120, .inl (fun i => zI (tx i)))), (tr, .inl (dA 0, 12, .inl (fun i => zI ((sp_set g 2 (sx_at n tx ((i7 + 1 : Nat) : Int) - 48)) i)))), (wt, .inl (dA 0, 4096, .inl (fun i => zI (wv i))))]) (rfl) ?_
            refine hv_if_eq C dX9_readCommand_227 (tgt := 234) (by decide) (zI_eq0 (by omega)) (fun hc227 => ?_) (fun hc227 => ?_)
            · exact absurd hc227 (by omega)
            · refine hv_iconst C dX9_readCommand_230 (v := zI (1)) rfl ?_
              refine hv_goto C dX9_readCommand_231 (tgt := 235) (by decide) ?_
              exact hv_iret C M dX9_readCommand_235 rfl zB_n1 (i7 + 2, (sp_set g 2 (sx_at n tx ((i7 + 1 : Nat) : Int) - 48)), ou + (if true = true then 0 else 1), ld, wv) ⟨hl, fun _ => ⟨by dsimp only; omega, ((hcm _ _ _).trans ((show ox_ti g _ = _ from by unfold ox_ti; rw [if_pos (by omega)]))).symm, by rw [(hcb _ _ _).trans (decide_eq_true (by omega))]⟩, fun q => absurd (by rw [mz_fc_g hq, if_pos (by omega)]) q⟩ (hv_rv (zB_T (by rw [mz_fc_g hq, if_pos (by omega)]))) [] (List.Perm.of_eq (by first | rfl | exact (List.append_nil _).symm)) (Nat.le_refl _) (Nat.le_refl _)
      · refine hv_callV (As := [.int (zI (0)), .int (zI (0)), .int (zI (2))]) (rest := []) (wc := [(m9, .inr (7, [.int (zI (rf)), .ref xt, .int (zI ((n : Int))), .ref nw, .ref tr, .ref di, .int (zI (ac)), .ref ke, .ref ik, .ref wt, .int (zI (ld)), .int (zI (((i7 + 1 : Nat) : Int))), .int (zI (ou))])), (xt, .inl (dA 0, 120, .inl (fun i => zI (tx i))))]) (wr := [(tr, .inl (dA 0, 12, .inl (fun i => zI (g i)))), (wt, .inl (dA 0, 4096, .inl (fun i => zI (wv i))))]) C (k_X9_digit_f l D dA m9 xt nw tr di ke ik wt rf n ac ld (i7 + 1) ou tx hn hr (by omega) (0) 0 2 (by omega) (by omega) (by omega) (fun q => hd1 q.2)) (cwV 3 C.1.2.2.2.2 (hw_V tw_m_RX9_132 tw_i_X9_digit tw_s_X9_digit tw_n_RX9 tw_k_X9_digit) rfl rfl rfl (by decide +kernel) ⟨Nat.le_of_ble_eq_true rfl, Nat.le_of_ble_eq_true rfl⟩) (hv_pm [0, 0] rfl) rfl 0 7 rfl rfl rfl (Nat.le_of_ble_eq_true rfl) dX9_readCommand_201 ⟨Nat.le_of_ble_eq_true rfl, Nat.le_of_ble_eq_true rfl⟩ (fun _ _ => ?_)
        refine hv_eqst (st' := [.int (zI (-1))]) rfl ?_
        refine hv_weq (ws' := [(m9, .inr (7, [.int (zI (rf)), .ref xt, .int (zI ((n : Int))), .ref nw, .ref tr, .ref di, .int (zI (ac)), .ref ke, .ref ik, .ref wt, .int (zI (ld)), .int (zI (((i7 + 1 : Nat) : Int))), .int (zI (ou))])), (xt, .inl (dA 0, 120, .inl (fun i => zI (tx i)))), (tr, .inl (dA 0, 12, .inl (fun i => zI (g i)))), (wt, .inl (dA 0, 4096, .inl (fun i => zI (wv i))))]) (rfl) ?_
        refine hv_istore_n C dX9_readCommand_204 (lw := [(3, .int (zI (-1))), (2, .int (zI (tx i7))), (0, .ref m9), (1, .ref tr)]) (by decide) rfl ?_
        refine hv_iload_n C dX9_readCommand_205 0 rfl ?_
        refine hv_iconst C dX9_readCommand_206 (v := zI (-1)) rfl ?_
        refine hv_icmp_eq C dX9_readCommand_207 (tgt := 234) (by decide) (zI_eq (by omega)) (fun hc207 => ?_) (fun hc207 => ?_)
        · refine hv_iconst C dX9_readCommand_234 (v := zI (0)) rfl ?_
          exact hv_iret C M dX9_readCommand_235 rfl zB_n2 (i7 + 1, g, ou, ld, wv) ⟨hl, fun q => absurd q (by rw [show sx_fc n tx i7 = _ from (by rw [mz_fc_g hq, if_neg (by omega)])]; omega), fun _ => (show sx_fc n tx i7 = _ from (by rw [mz_fc_g hq, if_neg (by omega)])).symm⟩ (hv_rv (zB_F (by rw [show sx_fc n tx i7 = _ from (by rw [mz_fc_g hq, if_neg (by omega)])]; omega))) [] (List.Perm.of_eq (by first | rfl | exact (List.append_nil _).symm)) (Nat.le_refl _) (Nat.le_refl _)
        · exact absurd hc207 (by omega)
    · refine hv_topi (y := zI (112)) (by rw [← hat, hq]) ?_
      refine hv_lookup C dX9_readCommand_21 (by decide) (off := 215) (by decide) (tgt := 236) (by decide) ?_
      have hcm : ∀ a b k, ox_cm g (sx_at n tx (i7 : Int)) a b k = ox_ps g := fun a b k => by rw [hq]; unfold ox_cm; rw [if_neg (by decide), if_neg (by decide), if_neg (by decide), if_pos rfl]
      have hcb : ∀ a b k, ox_cmb g (sx_at n tx (i7 : Int)) a b k = true := fun a b k => by rw [hq]; unfold ox_cmb; rw [if_neg (by decide), if_neg (by decide), if_neg (by decide), if_pos rfl]
      have hln : sx_len (sx_at n tx (i7 : Int)) = 0 := by rw [hq]; rfl
      refine hv_aload_n C dX9_readCommand_236 1 rfl ?_
      refine hv_aload_n C dX9_readCommand_237 2 rfl ?_
      refine hv_callS (As := [.ref tr]) (rest := [.ref m9]) (wc := [(tr, .inl (dA 0, 12, .inl (fun i => zI (g i))))]) (wr := [(m9, .inr (7, [.int (zI (rf)), .ref xt, .int (zI ((n : Int))), .ref nw, .ref tr, .ref di, .int (zI (ac)), .ref ke, .ref ik, .ref wt, .int (zI (ld)), .int (zI (((i7 + 1 : Nat) : Int))), .int (zI (ou))])), (xt, .inl (dA 0, 120, .inl (fun i => zI (tx i)))), (wt, .inl (dA 0, 4096, .inl (fun i => zI (wv i))))]) C (k_X9_passOn l D dA tr g) (va_cwS 1 C.1.2.2.2.2 (hw_S tw_m_RX9_149 tw_t_X9_passOn tw_n_RX9 tw_k_X9_passOn) rfl rfl rfl (by decide +kernel) ⟨Nat.le_of_ble_eq_true rfl, Nat.le_of_ble_eq_true rfl⟩) (hv_pm [2] rfl) rfl rfl (Nat.le_of_ble_eq_true rfl) dX9_readCommand_238 ⟨Nat.le_of_ble_eq_true rfl, Nat.le_of_ble_eq_true rfl⟩ (fun _ _ => ?_)
      refine hv_eqst (st' := [.int (zI (1 - g 3)), .ref m9]) rfl ?_
      refine hv_weq (ws' := [(tr, .inl (dA 0, 12, .inl (fun i => zI ((ox_ps g) i)))), (m9, .inr (7, [.int (zI (rf)), .ref xt, .int (zI ((n : Int))), .ref nw, .ref tr, .ref di, .int (zI (ac)), .ref ke, .ref ik, .ref wt, .int (zI (ld)), .int (zI (((i7 + 1 : Nat) : Int))), .int (zI (ou))])), (xt, .inl (dA 0, 120, .inl (fun i => zI (tx i)))), (wt, .inl (dA 0, 4096, .inl (fun i => zI (wv i))))]) (rfl) ?_
      refine hv_srt [1, 1, 0, 0] (ws' := [(m9, .inr (7, [.int (zI (rf)), .ref xt, .int (zI ((n : Int))), .ref nw, .ref tr, .ref di, .int (zI (ac)), .ref ke, .ref ik, .ref wt, .int (zI (ld)), .int (zI (((i7 + 1 : Nat) : Int))), .int (zI (ou))])), (xt, .inl (dA 0, 120, .inl (fun i => zI (tx i)))), (tr, .inl (dA 0, 12, .inl (fun i => zI ((ox_ps g) i)))), (wt, .inl (dA 0, 4096, .inl (fun i => zI (wv i))))]) rfl ?_
      refine hv_if_lt C dX9_readCommand_241 (tgt := 248) (by decide) (zI_lt0 (by omega)) (fun hc241 => ?_) (fun hc241 => ?_)
      · exact absurd hc241 (by omega)
      · refine hv_iconst C dX9_readCommand_244 (v := zI (1)) rfl ?_
        refine hv_goto C dX9_readCommand_245 (tgt := 249) (by decide) ?_
        refine hv_callV (As := [.int (zI (1))]) (rest := []) (wc := [(m9, .inr (7, [.int (zI (rf)), .ref xt, .int (zI ((n : Int))), .ref nw, .ref tr, .ref di, .int (zI (ac)), .ref ke, .ref ik, .ref wt, .int (zI (ld)), .int (zI (((i7 + 1 : Nat) : Int))), .int (zI (ou))]))]) (wr := [(xt, .inl (dA 0, 120, .inl (fun i => zI (tx i)))), (tr, .inl (dA 0, 12, .inl (fun i => zI ((ox_ps g) i)))), (wt, .inl (dA 0, 4096, .inl (fun i => zI (wv i))))]) C (k_X9_done l D dA m9 xt nw tr di ke ik wt rf (n : Int) ac (ld) (((i7 + 1 : Nat) : Int)) ou true rfl) (cwV 1 C.1.2.2.2.2 (hw_V tw_m_RX9_136 tw_i_X9_done tw_s_X9_done tw_n_RX9 tw_k_X9_done) rfl rfl rfl (by decide +kernel) ⟨Nat.le_of_ble_eq_true rfl, Nat.le_of_ble_eq_true rfl⟩) (hv_pm [0] rfl) rfl 0 7 rfl rfl rfl (Nat.le_of_ble_eq_true rfl) dX9_readCommand_249 ⟨Nat.le_of_ble_eq_true rfl, Nat.le_of_ble_eq_true rfl⟩ (fun _ _ => ?_)
        refine hv_eqst (st' := [.int (zI (1))]) rfl ?_
        refine hv_weq (ws' := [(m9, .inr (7, [.int (zI (rf)), .ref xt, .int (zI ((n : Int))), .ref nw, .ref tr, .ref di, .int (zI (ac)), .ref ke, .ref ik, .ref wt, .int (zI (ld)), .int (zI (((i7 + 1 : Nat) : Int))), .int (zI (ou + (if true = true then 0 else 1)))])), (xt, .inl (dA 0, 120, .inl (fun i => zI (tx i)))), (tr, .inl (dA 0, 12, .inl (fun i => zI ((ox_ps g) i)))), (wt, .inl (dA 0, 4096, .inl (fun i => zI (wv i))))]) (rfl) ?_
        exact hv_iret C M dX9_readCommand_252 rfl zB_n1 (i7 + 1, (ox_ps g), ou + (if true = true then 0 else 1), ld, wv) ⟨hl, fun _ => ⟨by dsimp only; omega, ((hcm _ _ _).trans (rfl)).symm, by rw [(hcb _ _ _).trans (rfl)]⟩, fun q => absurd (mz_fc_p hq) q⟩ (hv_rv (zB_T (mz_fc_p hq))) [] (List.Perm.of_eq (by first | rfl | exact (List.append_nil _).symm)) (Nat.le_refl _) (Nat.le_refl _)
    · refine hv_topi (y := zI (119)) (by rw [← hat, hq]) ?_
      refine hv_lookup C dX9_readCommand_21 (by decide) (off := 129) (by decide) (tgt := 150) (by decide) ?_
      have hcm : ∀ a b k, ox_cm g (sx_at n tx (i7 : Int)) a b k = ox_tw g a := fun a b k => by rw [hq]; unfold ox_cm; rw [if_neg (by decide), if_pos rfl]
      have hcb : ∀ a b k, ox_cmb g (sx_at n tx (i7 : Int)) a b k = ox_cw g a := fun a b k => by rw [hq]; unfold ox_cmb; rw [if_neg (by decide), if_pos rfl]
      have hln : sx_len (sx_at n tx (i7 : Int)) = 1 := by rw [hq]; rfl
      refine hv_aload_n C dX9_readCommand_150 1 rfl ?_
      refine hv_iconst C dX9_readCommand_151 (v := zI (0)) rfl ?_
      refine hv_iconst C dX9_readCommand_152 (v := zI (0)) rfl ?_
      refine hv_iconst C dX9_readCommand_153 (v := zI (5)) rfl ?_
      by_cases hd1 : (0 : Int) ≤ sx_at n tx ((i7 + 1 : Nat) : Int) - 48 ∧ sx_at n tx ((i7 + 1 : Nat) : Int) - 48 ≤ 5
      · refine hv_callV (As := [.int (zI (0)), .int (zI (0)), .int (zI (5))]) (rest := []) (wc := [(m9, .inr (7, [.int (zI (rf)), .ref xt, .int (zI ((n : Int))), .ref nw, .ref tr, .ref di, .int (zI (ac)), .ref ke, .ref ik, .ref wt, .int (zI (ld)), .int (zI (((i7 + 1 : Nat) : Int))), .int (zI (ou))])), (xt, .inl (dA 0, 120, .inl (fun i => zI (tx i))))]) (wr := [(tr, .inl (dA 0, 12, .inl (fun i => zI (g i)))), (wt, .inl (dA 0, 4096, .inl (fun i => zI (wv i))))]) C (k_X9_digit_t l D dA m9 xt nw tr di ke ik wt rf n ac ld (i7 + 1) ou tx hn hr (by omega) (0) 0 5 (by omega) (by omega) (by omega) ⟨by omega, hd1⟩) (cwV 3 C.1.2.2.2.2 (hw_V tw_m_RX9_132 tw_i_X9_digit tw_s_X9_digit tw_n_RX9 tw_k_X9_digit) rfl rfl rfl (by decide +kernel) ⟨Nat.le_of_ble_eq_true rfl, Nat.le_of_ble_eq_true rfl⟩) (hv_pm [0, 0] rfl) rfl 0 7 rfl rfl rfl (Nat.le_of_ble_eq_true rfl) dX9_readCommand_154 ⟨Nat.le_of_ble_eq_true rfl, Nat.le_of_ble_eq_true rfl⟩ (fun _ _ => ?_)
        refine hv_eqst (st' := [.int (zI (sx_at n tx ((i7 + 1 : Nat) : Int) - 48))]) rfl ?_
        refine hv_weq (ws' := [(m9, .inr (7, [.int (zI (rf)), .ref xt, .int (zI ((n : Int))), .ref nw, .ref tr, .ref di, .int (zI (ac)), .ref ke, .ref ik, .ref wt, .int (zI (ld)), .int (zI (((i7 + 2 : Nat) : Int))), .int (zI (ou))])), (xt, .inl (dA 0, 120, .inl (fun i => zI (tx i)))), (tr, .inl (dA 0, 12, .inl (fun i => zI (g i)))), (wt, .inl (dA 0, 4096, .inl (fun i => zI (wv i))))]) (rfl) ?_
        refine hv_istore_n C dX9_readCommand_157 (lw := [(3, .int (zI (sx_at n tx ((i7 + 1 : Nat) : Int) - 48))), (2, .int (zI (tx i7))), (0, .ref m9), (1, .ref tr)]) (by decide) rfl ?_
        refine hv_iload_n C dX9_readCommand_158 0 rfl ?_
        refine hv_iconst C dX9_readCommand_159 (v := zI (-1)) rfl ?_
        refine hv_icmp_eq C dX9_readCommand_160 (tgt := 195) (by decide) (zI_eq (by omega)) (fun hc160 => ?_) (fun hc160 => ?_)
        · exact absurd hc160 (by omega)
        · refine hv_aload_n C dX9_readCommand_163 2 rfl ?_
          refine hv_aload_n C dX9_readCommand_164 3 rfl ?_
          refine hv_iload_n C dX9_readCommand_165 0 rfl ?_
          refine hv_callS (As := [.ref tr, .int (zI (sx_at n tx ((i7 + 1 : Nat) : Int) - 48))]) (rest := [.ref m9]) (wc := [(tr, .inl (dA 0, 12, .inl (fun i => zI (g i))))]) (wr := [(m9, .inr (7, [.int (zI (rf)), .ref xt, .int (zI ((n : Int))), .ref nw, .ref tr, .ref di, .int (zI (ac)), .ref ke, .ref ik, .ref wt, .int (zI (ld)), .int (zI (((i7 + 2 : Nat) : Int))), .int (zI (ou))])), (xt, .inl (dA 0, 120, .inl (fun i => zI (tx i)))), (wt, .inl (dA 0, 4096, .inl (fun i => zI (wv i))))]) C (k_X9_canWater l D dA tr g hg (sx_at n tx ((i7 + 1 : Nat) : Int) - 48) (by omega)) (va_cwS 2 C.1.2.2.2.2 (hw_S tw_m_RX9_140 tw_t_X9_canWater tw_n_RX9 tw_k_X9_canWater) rfl rfl rfl (by decide +kernel) ⟨Nat.le_of_ble_eq_true rfl, Nat.le_of_ble_eq_true rfl⟩) (hv_pm [2] rfl) rfl rfl (Nat.le_of_ble_eq_true rfl) dX9_readCommand_166 ⟨Nat.le_of_ble_eq_true rfl, Nat.le_of_ble_eq_true rfl⟩ (fun _ _ => ?_)
          refine hv_eqst (st' := [.int (zI (zB (ox_cw g (sx_at n tx ((i7 + 1 : Nat) : Int) - 48)))), .ref m9]) rfl ?_
          refine hv_weq (ws' := [(tr, .inl (dA 0, 12, .inl (fun i => zI (g i)))), (m9, .inr (7, [.int (zI (rf)), .ref xt, .int (zI ((n : Int))), .ref nw, .ref tr, .ref di, .int (zI (ac)), .ref ke, .ref ik, .ref wt, .int (zI (ld)), .int (zI (((i7 + 2 : Nat) : Int))), .int (zI (ou))])), (xt, .inl (dA 0, 120, .inl (fun i => zI (tx i)))), (wt, .inl (dA 0, 4096, .inl (fun i => zI (wv i))))]) (rfl) ?_
          refine hv_srt [1, 1, 0, 0] (ws' := [(m9, .inr (7, [.int (zI (rf)), .ref xt, .int (zI ((n : Int))), .ref nw, .ref tr, .ref di, .int (zI (ac)), .ref ke, .ref ik, .ref wt, .int (zI (ld)), .int (zI (((i7 + 2 : Nat) : Int))), .int (zI (ou))])), (xt, .inl (dA 0, 120, .inl (fun i => zI (tx i)))), (tr, .inl (dA 0, 12, .inl (fun i => zI (g i)))), (wt, .inl (dA 0, 4096, .inl (fun i => zI (wv i))))]) rfl ?_
          refine hv_if_eq C dX9_readCommand_169 (tgt := 184) (by decide) zB_e (fun hc169 => ?_) (fun hc169 => ?_)
          · refine hv_iconst C dX9_readCommand_184 (v := zI (0)) rfl ?_
            refine hv_callV (As := [.int (zI (0))]) (rest := []) (wc := [(m9, .inr (7, [.int (zI (rf)), .ref xt, .int (zI ((n : Int))), .ref nw, .ref tr, .ref di, .int (zI (ac)), .ref ke, .ref ik, .ref wt, .int (zI (ld)), .int (zI (((i7 + 2 : Nat) : Int))), .int (zI (ou))]))]) (wr := [(xt, .inl (dA 0, 120, .inl (fun i => zI (tx i)))), (tr, .inl (dA 0, 12, .inl (fun i => zI (g i)))), (wt, .inl (dA 0, 4096, .inl (fun i => zI (wv i))))]) C (k_X9_done l D dA m9 xt nw tr di ke ik wt rf (n : Int) ac (ld) (((i7 + 2 : Nat) : Int)) ou false rfl) (cwV 1 C.1.2.2.2.2 (hw_V tw_m_RX9_136 tw_i_X9_done tw_s_X9_done tw_n_RX9 tw_k_X9_done) rfl rfl rfl (by decide +kernel) ⟨Nat.le_of_ble_eq_true rfl, Nat.le_of_ble_eq_true rfl⟩) (hv_pm [0] rfl) rfl 0 7 rfl rfl rfl (Nat.le_of_ble_eq_true rfl) dX9_readCommand_185 ⟨Nat.le_of_ble_eq_true rfl, Nat.le_of_ble_eq_true rfl⟩ (fun _ _ => ?_)
            refine hv_eqst (st' := [.int (zI (1))]) rfl ?_
            refine hv_weq (ws' := [(m9, .inr (7, [.int (zI (rf)), .ref xt, .int (zI ((n : Int))), .ref nw, .ref tr, .ref di, .int (zI (ac)), .ref ke, .ref ik, .ref wt, .int (zI (ld)), .int (zI (((i7 + 2 : Nat) : Int))), .int (zI (ou + (if false = true then 0 else 1)))])), (xt, .inl (dA 0, 120, .inl (fun i => zI (tx i)))), (tr, .inl (dA 0, 12, .inl (fun i => zI (g i)))), (wt, .inl (dA 0, 4096, .inl (fun i => zI (wv i))))]) (rfl) ?_
            refine hv_if_eq C dX9_readCommand_188 (tgt := 195) (by decide) (zI_eq0 (by omega)) (fun hc188 => ?_) (fun hc188 => ?_)
            · exact absurd hc188 (by omega)
            · refine hv_iconst C dX9_readCommand_191 (v := zI (1)) rfl ?_
              refine hv_goto C dX9_readCommand_192 (tgt := 196) (by decide) ?_
              exact hv_iret C M dX9_readCommand_196 rfl zB_n1 (i7 + 2, g, ou + (if false = true then 0 else 1), ld, wv) ⟨hl, fun _ => ⟨by dsimp only; omega, ((hcm _ _ _).trans (mz_tw_f hc169)).symm, by rw [(hcb _ _ _).trans (Bool.eq_false_iff.mpr hc169)]⟩, fun q => absurd (by rw [mz_fc_w hq, if_pos (by omega)]) q⟩ (hv_rv (zB_T (by rw [mz_fc_w hq, if_pos (by omega)]))) [] (List.Perm.of_eq (by first | rfl | exact (List.append_nil _).symm)) (Nat.le_refl _) (Nat.le_refl _)
          · have hcn := Decidable.not_not.mp hc169
            have hct := (ox_cw_t hcn).1
            refine hv_aload_n C dX9_readCommand_172 3 rfl ?_
            refine hv_iload_n C dX9_readCommand_173 0 rfl ?_
            refine hv_callS (As := [.ref tr, .int (zI (sx_at n tx ((i7 + 1 : Nat) : Int) - 48))]) (rest := [.ref m9]) (wc := [(tr, .inl (dA 0, 12, .inl (fun i => zI (g i))))]) (wr := [(m9, .inr (7, [.int (zI (rf)), .ref xt, .int (zI ((n : Int))), .ref nw, .ref tr, .ref di, .int (zI (ac)), .ref ke, .ref ik, .ref wt, .int (zI (ld)), .int (zI (((i7 + 2 : Nat) : Int))), .int (zI (ou))])), (xt, .inl (dA 0, 120, .inl (fun i => zI (tx i)))), (wt, .inl (dA 0, 4096, .inl (fun i => zI (wv i))))]) C (k_X9_waterOn l D dA tr g hg (sx_at n tx ((i7 + 1 : Nat) : Int) - 48).toNat (by omega) (by omega) ((ox_cw_t (hcn)).2)) (va_cwS 2 C.1.2.2.2.2 (hw_S tw_m_RX9_143 tw_t_X9_waterOn tw_n_RX9 tw_k_X9_waterOn) rfl rfl rfl (by decide +kernel) ⟨Nat.le_of_ble_eq_true rfl, Nat.le_of_ble_eq_true rfl⟩) (hv_pm [2] rfl) rfl rfl (Nat.le_of_ble_eq_true rfl) dX9_readCommand_174 ⟨Nat.le_of_ble_eq_true rfl, Nat.le_of_ble_eq_true rfl⟩ (fun _ _ => ?_)
            have hdg := mz_dg1 ((ox_cw_t (hcn)).2)
            have hdl := sp_dg_lt (gH g) (sx_at n tx ((i7 + 1 : Nat) : Int) - 48).toNat
            refine hv_eqst (st' := [.int (zI ((sp_dg (gH g + 4 ^ (sx_at n tx ((i7 + 1 : Nat) : Int) - 48).toNat) (sx_at n tx ((i7 + 1 : Nat) : Int) - 48).toNat : Int))), .ref m9]) rfl ?_
            refine hv_weq (ws' := [(tr, .inl (dA 0, 12, .inl (fun i => zI ((ox_wat g (((sx_at n tx ((i7 + 1 : Nat) : Int) - 48).toNat : Nat) : Int)) i)))), (m9, .inr (7, [.int (zI (rf)), .ref xt, .int (zI ((n : Int))), .ref nw, .ref tr, .ref di, .int (zI (ac)), .ref ke, .ref ik, .ref wt, .int (zI (ld)), .int (zI (((i7 + 2 : Nat) : Int))), .int (zI (ou))])), (xt, .inl (dA 0, 120, .inl (fun i => zI (tx i)))), (wt, .inl (dA 0, 4096, .inl (fun i => zI (wv i))))]) (rfl) ?_
            refine hv_srt [1, 1, 0, 0] (ws' := [(m9, .inr (7, [.int (zI (rf)), .ref xt, .int (zI ((n : Int))), .ref nw, .ref tr, .ref di, .int (zI (ac)), .ref ke, .ref ik, .ref wt, .int (zI (ld)), .int (zI (((i7 + 2 : Nat) : Int))), .int (zI (ou))])), (xt, .inl (dA 0, 120, .inl (fun i => zI (tx i)))), (tr, .inl (dA 0, 12, .inl (fun i => zI ((ox_wat g (((sx_at n tx ((i7 + 1 : Nat) : Int) - 48).toNat : Nat) : Int)) i)))), (wt, .inl (dA 0, 4096, .inl (fun i => zI (wv i))))]) rfl ?_
            refine hv_if_le C dX9_readCommand_177 (tgt := 184) (by decide) (zI_le0 (by omega)) (fun hc177 => ?_) (fun hc177 => ?_)
            · exact absurd hc177 (by omega)
            · refine hv_iconst C dX9_readCommand_180 (v := zI (1)) rfl ?_
              refine hv_goto C dX9_readCommand_181 (tgt := 185) (by decide) ?_
              refine hv_callV (As := [.int (zI (1))]) (rest := []) (wc := [(m9, .inr (7, [.int (zI (rf)), .ref xt, .int (zI ((n : Int))), .ref nw, .ref tr, .ref di, .int (zI (ac)), .ref ke, .ref ik, .ref wt, .int (zI (ld)), .int (zI (((i7 + 2 : Nat) : Int))), .int (zI (ou))]))]) (wr := [(xt, .inl (dA 0, 120, .inl (fun i => zI (tx i)))), (tr, .inl (dA 0, 12, .inl (fun i => zI ((ox_wat g (((sx_at n tx ((i7 + 1 : Nat) : Int) - 48).toNat : Nat) : Int)) i)))), (wt, .inl (dA 0, 4096, .inl (fun i => zI (wv i))))]) C (k_X9_done l D dA m9 xt nw tr di ke ik wt rf (n : Int) ac (ld) (((i7 + 2 : Nat) : Int)) ou true rfl) (cwV 1 C.1.2.2.2.2 (hw_V tw_m_RX9_136 tw_i_X9_done tw_s_X9_done tw_n_RX9 tw_k_X9_done) rfl rfl rfl (by decide +kernel) ⟨Nat.le_of_ble_eq_true rfl, Nat.le_of_ble_eq_true rfl⟩) (hv_pm [0] rfl) rfl 0 7 rfl rfl rfl (Nat.le_of_ble_eq_true rfl) dX9_readCommand_185 ⟨Nat.le_of_ble_eq_true rfl, Nat.le_of_ble_eq_true rfl⟩ (fun _ _ => ?_)
              refine hv_eqst (st' := [.int (zI (1))]) rfl ?_
              refine hv_weq (ws' := [(m9, .inr (7, [.int (zI (rf)), .ref xt, .int (zI ((n : Int))), .ref nw, .ref tr, .ref di, .int (zI (ac)), .ref ke, .ref ik, .ref wt, .int (zI (ld)), .int (zI (((i7 + 2 : Nat) : Int))), .int (zI (ou + (if true = true then 0 else 1)))])), (xt, .inl (dA 0, 120, .inl (fun i => zI (tx i)))), (tr, .inl (dA 0, 12, .inl (fun i => zI ((ox_wat g (((sx_at n tx ((i7 + 1 : Nat) : Int) - 48).toNat : Nat) : Int)) i)))), (wt, .inl (dA 0, 4096, .inl (fun i => zI (wv i))))]) (rfl) ?_
              refine hv_if_eq C dX9_readCommand_188 (tgt := 195) (by decide) (zI_eq0 (by omega)) (fun hc188 => ?_) (fun hc188 => ?_)
              · exact absurd hc188 (by omega)
              · refine hv_iconst C dX9_readCommand_191 (v := zI (1)) rfl ?_
                refine hv_goto C dX9_readCommand_192 (tgt := 196) (by decide) ?_
                exact hv_iret C M dX9_readCommand_196 rfl zB_n1 (i7 + 2, (ox_wat g (((sx_at n tx ((i7 + 1 : Nat) : Int) - 48).toNat : Nat) : Int)), ou + (if true = true then 0 else 1), ld, wv) ⟨hl, fun _ => ⟨by dsimp only; omega, ((hcm _ _ _).trans (mz_tw_t hcn)).symm, by rw [(hcb _ _ _).trans (hcn)]⟩, fun q => absurd (by rw [mz_fc_w hq, if_pos (by omega)]) q⟩ (hv_rv (zB_T (by rw [mz_fc_w hq, if_pos (by omega)]))) [] (List.Perm.of_eq (by first | rfl | exact (List.append_nil _).symm)) (Nat.le_refl _) (Nat.le_refl _)
      · refine hv_callV (As := [.int (zI (0)), .int (zI (0)), .int (zI (5))]) (rest := []) (wc := [(m9, .inr (7, [.int (zI (rf)), .ref xt, .int (zI ((n : Int))), .ref nw, .ref tr, .ref di, .int (zI (ac)), .ref ke, .ref ik, .ref wt, .int (zI (ld)), .int (zI (((i7 + 1 : Nat) : Int))), .int (zI (ou))])), (xt, .inl (dA 0, 120, .inl (fun i => zI (tx i))))]) (wr := [(tr, .inl (dA 0, 12, .inl (fun i => zI (g i)))), (wt, .inl (dA 0, 4096, .inl (fun i => zI (wv i))))]) C (k_X9_digit_f l D dA m9 xt nw tr di ke ik wt rf n ac ld (i7 + 1) ou tx hn hr (by omega) (0) 0 5 (by omega) (by omega) (by omega) (fun q => hd1 q.2)) (cwV 3 C.1.2.2.2.2 (hw_V tw_m_RX9_132 tw_i_X9_digit tw_s_X9_digit tw_n_RX9 tw_k_X9_digit) rfl rfl rfl (by decide +kernel) ⟨Nat.le_of_ble_eq_true rfl, Nat.le_of_ble_eq_true rfl⟩) (hv_pm [0, 0] rfl) rfl 0 7 rfl rfl rfl (Nat.le_of_ble_eq_true rfl) dX9_readCommand_154 ⟨Nat.le_of_ble_eq_true rfl, Nat.le_of_ble_eq_true rfl⟩ (fun _ _ => ?_)
        refine hv_eqst (st' := [.int (zI (-1))]) rfl ?_
        refine hv_weq (ws' := [(m9, .inr (7, [.int (zI (rf)), .ref xt, .int (zI ((n : Int))), .ref nw, .ref tr, .ref di, .int (zI (ac)), .ref ke, .ref ik, .ref wt, .int (zI (ld)), .int (zI (((i7 + 1 : Nat) : Int))), .int (zI (ou))])), (xt, .inl (dA 0, 120, .inl (fun i => zI (tx i)))), (tr, .inl (dA 0, 12, .inl (fun i => zI (g i)))), (wt, .inl (dA 0, 4096, .inl (fun i => zI (wv i))))]) (rfl) ?_
        refine hv_istore_n C dX9_readCommand_157 (lw := [(3, .int (zI (-1))), (2, .int (zI (tx i7))), (0, .ref m9), (1, .ref tr)]) (by decide) rfl ?_
        refine hv_iload_n C dX9_readCommand_158 0 rfl ?_
        refine hv_iconst C dX9_readCommand_159 (v := zI (-1)) rfl ?_
        refine hv_icmp_eq C dX9_readCommand_160 (tgt := 195) (by decide) (zI_eq (by omega)) (fun hc160 => ?_) (fun hc160 => ?_)
        · refine hv_iconst C dX9_readCommand_195 (v := zI (0)) rfl ?_
          exact hv_iret C M dX9_readCommand_196 rfl zB_n2 (i7 + 1, g, ou, ld, wv) ⟨hl, fun q => absurd q (by rw [show sx_fc n tx i7 = _ from (by rw [mz_fc_w hq, if_neg (by omega)])]; omega), fun _ => (show sx_fc n tx i7 = _ from (by rw [mz_fc_w hq, if_neg (by omega)])).symm⟩ (hv_rv (zB_F (by rw [show sx_fc n tx i7 = _ from (by rw [mz_fc_w hq, if_neg (by omega)])]; omega))) [] (List.Perm.of_eq (by first | rfl | exact (List.append_nil _).symm)) (Nat.le_refl _) (Nat.le_refl _)
        · exact absurd hc160 (by omega)
  · refine hv_lookup C dX9_readCommand_21 (by decide) (off := 242) (by rw [zI_toInt (by omega)]; exact mz_lk _ _ _ (fun p hp => by simp only [List.mem_cons, List.not_mem_nil, or_false] at hp; rcases hp with rfl | rfl | rfl | rfl | rfl <;> dsimp only <;> omega)) (tgt := 263) (by decide) ?_
    refine hv_aload_n C dX9_readCommand_263 1 rfl ?_
    refine hv_dup C dX9_readCommand_264 rfl ?_
    refine hv_get C dX9_readCommand_265 (fun w h => hw_c (tw_u_9 w h)) 0 (ci := 7) rfl rfl 11 (by decide) (hw_c tw_f_RX9_126) rfl ?_
    refine hv_iconst C dX9_readCommand_268 (v := zI (1)) rfl ?_
    refine hv_isub C dX9_readCommand_269 (z := zI ((i7 : Int))) ((zI_sub _ _).trans (zI_c (by omega))) ?_
    refine hv_put C dX9_readCommand_270 (fun w h => hw_c (tw_u_9 w h)) tyX9 tyX9_ok nmX9 0 (ci := 7) (ty := .int) rfl rfl 11 (by decide) (hw_c tw_f_RX9_126) rfl rfl rfl rfl (Nat.le_of_ble_eq_true rfl) ?_
    refine hv_weq (ws' := [(m9, .inr (7, [.int (zI (rf)), .ref xt, .int (zI ((n : Int))), .ref nw, .ref tr, .ref di, .int (zI (ac)), .ref ke, .ref ik, .ref wt, .int (zI (ld)), .int (zI ((i7 : Int))), .int (zI (ou))])), (xt, .inl (dA 0, 120, .inl (fun i => zI (tx i)))), (tr, .inl (dA 0, 12, .inl (fun i => zI (g i)))), (wt, .inl (dA 0, 4096, .inl (fun i => zI (wv i))))]) rfl ?_
    refine hv_iconst C dX9_readCommand_273 (v := zI (0)) rfl ?_
    exact hv_iret C M dX9_readCommand_274 rfl zB_n2 (i7, g, ou, ld, wv) ⟨hl, fun q => absurd q (by rw [show sx_fc n tx i7 = _ from mz_fc_o hq0]; omega), fun _ => (show sx_fc n tx i7 = _ from mz_fc_o hq0).symm⟩ (hv_rv (zB_F (by rw [show sx_fc n tx i7 = _ from mz_fc_o hq0]; omega))) [] (List.Perm.of_eq (by first | rfl | exact (List.append_nil _).symm)) (Nat.le_refl _) (Nat.le_refl _)

theorem mz_hs (tx : Nat → Int) : ∀ k i, sx_h tx i (k + 1) = sx_h tx i k + (tx (i + k) - 48).toNat * 4 ^ k
  | 0, i => by simp [sx_h]
  | k + 1, i => by
    rw [sx_h, mz_hs tx k (i + 1), sx_h, show i + 1 + k = i + (k + 1) by omega, Nat.pow_succ]
    rw [Nat.mul_add, ← Nat.add_assoc, ← Nat.mul_assoc, Nat.mul_comm 4 ((tx (i + (k + 1)) - 48).toNat), Nat.mul_assoc, Nat.mul_comm 4 (4 ^ k)]
theorem mz_hl {n : Nat} {tx : Nat → Int} : ∀ k : Nat, (∀ j : Nat, 1 ≤ j → j < 1 + k → 48 ≤ sx_at n tx (j : Int) ∧ sx_at n tx (j : Int) ≤ 51) → sx_h tx 1 k < 4 ^ k := fun k h => ld_h (n := n) k 1 (fun j a b => by
  have h5 := h j a b
  have h6 := sx_at_in (n := n) (tx := tx) (z := (j : Int)) (by unfold sx_at at h5; split at h5 <;> omega)
  rw [Int.toNat_natCast] at h6
  omega)
theorem mz_new0 : sp_set (sp_set (sp_new 4 170) 0 0) 1 0 = sp_new ((0 : Nat) : Int) ((0 : Nat) : Int) := by
  funext i
  rcases i with _ | _ | _ | _ | _ | _ | i
  · rfl
  · rfl
  · rfl
  · rfl
  · rfl
  · rfl
  · show (if i + 1 + 1 + 1 + 1 + 1 + 1 = 1 then _ else if i + 1 + 1 + 1 + 1 + 1 + 1 = 0 then _ else _) = _
    rw [if_neg (by omega), if_neg (by omega)]
    rfl
theorem mz_new1 (a b a2 b2 : Int) : sp_set (sp_set (sp_new a b) 1 b2) 0 a2 = sp_new a2 b2 := by
  funext i
  rcases i with _ | _ | _ | _ | _ | _ | i
  · rfl
  · rfl
  · rfl
  · rfl
  · rfl
  · rfl
  · show (if i + 1 + 1 + 1 + 1 + 1 + 1 = 0 then _ else if i + 1 + 1 + 1 + 1 + 1 + 1 = 1 then _ else _) = _
    rw [if_neg (by omega), if_neg (by omega)]
    rfl
theorem mz_bsn {n : Nat} {tx : Nat → Int} (h : 2 ≤ sx_bs n tx) : sx_bs n tx ≤ n := by
  have h5 := sx_g_dig n tx 6 1 (sx_bs n tx - 1) (by omega) (by show _ < sx_bs n tx; omega)
  unfold sx_at at h5
  split at h5 <;> omega
theorem mz_it0 {n : Nat} {tx : Nat → Int} : ∀ k, k < sx_bs n tx → ld_it n tx k = (ld_0 n tx, 0)
  | 0, _ => rfl
  | k + 1, h => by
    have h5 := sx_g_dig n tx 6 1 (k + 1) (by omega) h
    rw [ld_it, ld_st, if_pos (by omega), mz_it0 k (by omega)]
theorem mz_itd {n : Nat} {tx : Nat → Int} (k : Nat) : ∀ m, (∀ q, k < q → q ≤ k + m → 48 ≤ sx_at n tx (q : Int) ∧ sx_at n tx (q : Int) ≤ 57) → ld_it n tx (k + m) = ld_it n tx k
  | 0, _ => rfl
  | m + 1, h => by
    have h5 := h (k + (m + 1)) (by omega) (by omega)
    rw [show k + (m + 1) = k + m + 1 by omega] at h5 ⊢
    rw [ld_it, ld_st, if_pos h5]
    exact mz_itd k m (fun q a b => h q a (by omega))
theorem mz_fld (n : Nat) (tx : Nat → Int) (i : Nat) (c : Int) : ∀ k p, sx_fl n tx i c k p = -1 → ∀ q, p ≤ q → q < p + k → 48 ≤ sx_at n tx ((i + q : Nat) : Int) ∧ sx_at n tx ((i + q : Nat) : Int) ≤ 57
  | 0, p, _, q, h1, h2 => by omega
  | k + 1, p, h, q, h1, h2 => by
    rw [sx_fl] at h
    split at h
    · next g =>
      rcases Nat.lt_or_ge p q with h3 | h3
      · exact mz_fld n tx i c k (p + 1) h q h3 (by omega)
      · obtain rfl : p = q := by omega
        exact ld_al g
    · omega
/-- a command that is right: what the walk over signs makes of it -/
theorem mz_step {n i : Nat} {tx : Nat → Int} (h1 : 1 ≤ i) (hin : i < n) (hf : sx_fc n tx i = -1) : i + sx_len (sx_at n tx (i : Int)) < n ∧ ld_it n tx (i + sx_len (sx_at n tx (i : Int))) = (ox_cm (ld_it n tx (i - 1)).1 (sx_at n tx (i : Int)) (sx_at n tx ((i + 1 : Nat) : Int) - 48) (sx_at n tx ((i + 2 : Nat) : Int) - 48) (sx_at n tx ((i + 3 : Nat) : Int) - 48), (ld_it n tx (i - 1)).2 + (if ox_cmb (ld_it n tx (i - 1)).1 (sx_at n tx (i : Int)) (sx_at n tx ((i + 1 : Nat) : Int) - 48) (sx_at n tx ((i + 2 : Nat) : Int) - 48) (sx_at n tx ((i + 3 : Nat) : Int) - 48) = true then 0 else 1)) := by
  unfold sx_fc at hf
  split at hf
  · next g =>
    have hd := mz_fld n tx i _ _ _ hf
    have hcm := of_decide_eq_true g
    refine ⟨?_, ?_⟩
    · rcases Nat.eq_zero_or_pos (sx_len (sx_at n tx (i : Int))) with q | q
      · omega
      · have h5 := mz_atl (hd (sx_len (sx_at n tx (i : Int))) (by omega) (by omega)).1
        omega
    · rw [mz_itd i _ (fun q a b => by
        have h5 := hd (q - i) (by omega) (by omega)
        rw [show i + (q - i) = q by omega] at h5
        exact h5)]
      obtain ⟨k, rfl⟩ : ∃ k, i = k + 1 := ⟨i - 1, by omega⟩
      rw [ld_it, ld_st, if_neg (by omega), Nat.add_sub_cancel, mz_done]
      rfl
  · next g => exact absurd (hf ▸ rfl : (i : Int) = -1) (by omega)
theorem mz_bs_end {n : Nat} {tx : Nat → Int} {m k : Nat} (h : sx_g n tx m (k + 1) = sx_bs n tx) (e : ¬ (48 ≤ sx_at n tx ((k + 1 : Nat) : Int) ∧ sx_at n tx ((k + 1 : Nat) : Int) ≤ 51) ∨ m = 0) : sx_bs n tx = k + 1 := by
  rw [← h]
  rcases m with _ | m
  · rfl
  · rw [sx_g, if_neg (by rcases e with e | e; exact e; omega)]
theorem mz_bs_go {n : Nat} {tx : Nat → Int} {m k : Nat} (h : sx_g n tx (m + 1) (k + 1) = sx_bs n tx) (e : 48 ≤ sx_at n tx ((k + 1 : Nat) : Int) ∧ sx_at n tx ((k + 1 : Nat) : Int) ≤ 51) : sx_g n tx m (k + 1 + 1) = sx_bs n tx := by
  rw [← h, sx_g, if_pos e]
theorem mz_ffe {n : Nat} {tx : Nat → Int} (f : Nat) : sx_ff n tx f n = -1 := by
  rcases f with _ | f
  · rfl
  · rw [sx_ff, if_neg (by omega)]
theorem mz_ffs {n f i : Nat} {tx : Nat → Int} (h : i < n) (e : sx_fc n tx i = -1) : sx_ff n tx (f + 1) i = sx_ff n tx f (i + 1 + sx_len (sx_at n tx (i : Int))) := by rw [sx_ff, if_pos h, if_pos e]
theorem mz_fff {n f i : Nat} {tx : Nat → Int} (h : i < n) (e : ¬ sx_fc n tx i = -1) : sx_ff n tx (f + 1) i = sx_fc n tx i := by rw [sx_ff, if_pos h, if_neg e]

set_option maxHeartbeats 8000000 in
set_option maxRecDepth 100000 in
theorem k_X9_readText (l : Launch) (D : va_G) (dA : Nat → ClassId) (m9 xt nw tr di ke ik wt : Nat) (rf : Int) (n : Nat) (ac ld sp ou : Int) (t : Nat → Int) (tx : Nat → Int) (hn : n ≤ 120) (hr : sx_rg tx) (wv : Nat → Int) (hl : mz_LW ld wv) : hv_Ct l yX9_readText (hw_W yX9_readText cX9_readText 3 (some .int)) 11 D dA [.ref m9, .ref tr] ([(m9, .inr (7, [.int (zI (rf)), .ref xt, .int (zI ((n : Int))), .ref nw, .ref tr, .ref di, .int (zI (ac)), .ref ke, .ref ik, .ref wt, .int (zI (ld)), .int (zI (sp)), .int (zI (ou))])), (xt, .inl (dA 0, 120, .inl (fun i => zI (tx i)))), (tr, .inl (dA 0, 12, .inl (fun i => zI (t i)))), (wt, .inl (dA 0, 4096, .inl (fun i => zI (wv i))))]) 0 0 (S := Int × (Nat → Int) × Int × Int × (Nat → Int)) (fun _ => some (.int (zI (sx_err n tx)))) (fun u => mz_LW u.2.2.2.1 u.2.2.2.2 ∧ (sx_err n tx = -1 → (u.2.1, u.2.2.1) = ld_it n tx (n - 1))) (fun u => [(m9, .inr (7, [.int (zI (rf)), .ref xt, .int (zI ((n : Int))), .ref nw, .ref tr, .ref di, .int (zI (ac)), .ref ke, .ref ik, .ref wt, .int (zI (u.2.2.2.1)), .int (zI (u.1)), .int (zI (u.2.2.1))])), (xt, .inl (dA 0, 120, .inl (fun i => zI (tx i)))), (tr, .inl (dA 0, 12, .inl (fun i => zI (u.2.1 i)))), (wt, .inl (dA 0, 4096, .inl (fun i => zI (u.2.2.2.2 i))))]) := by
  refine hv_of (cc := cX9_readText) (maxL := 3) (ret := (some .int)) (own := RX9) rfl (by decide) rfl (Nat.le_of_ble_eq_true rfl) ?_
  intro p e s m args below meth c C M
  refine hv_lveq (lv' := [(0, .ref m9), (1, .ref tr)]) rfl ?_
  refine hv_aload_n C dX9_readText_0 1 rfl ?_
  refine hv_callS (As := [.ref tr]) (rest := []) (wc := [(tr, .inl (dA 0, 12, .inl (fun i => zI (t i))))]) (wr := [(m9, .inr (7, [.int (zI (rf)), .ref xt, .int (zI ((n : Int))), .ref nw, .ref tr, .ref di, .int (zI (ac)), .ref ke, .ref ik, .ref wt, .int (zI (ld)), .int (zI (sp)), .int (zI (ou))])), (xt, .inl (dA 0, 120, .inl (fun i => zI (tx i)))), (wt, .inl (dA 0, 4096, .inl (fun i => zI (wv i))))]) C (k_X9_clear l D dA tr t) (va_cwS 1 C.1.2.2.2.2 (hw_S tw_m_RX9_36 tw_t_X9_clear tw_n_RX9 tw_k_X9_clear) rfl rfl rfl (by decide +kernel) ⟨Nat.le_of_ble_eq_true rfl, Nat.le_of_ble_eq_true rfl⟩) (hv_pm [2] rfl) rfl rfl (Nat.le_of_ble_eq_true rfl) dX9_readText_1 ⟨Nat.le_of_ble_eq_true rfl, Nat.le_of_ble_eq_true rfl⟩ (fun _ _ => ?_)
  refine hv_eqst (st' := []) rfl ?_
  refine hv_weq (ws' := [(tr, .inl (dA 0, 12, .inl (fun i => zI ((sp_new 4 170) i)))), (m9, .inr (7, [.int (zI (rf)), .ref xt, .int (zI ((n : Int))), .ref nw, .ref tr, .ref di, .int (zI (ac)), .ref ke, .ref ik, .ref wt, .int (zI (ld)), .int (zI (sp)), .int (zI (ou))])), (xt, .inl (dA 0, 120, .inl (fun i => zI (tx i)))), (wt, .inl (dA 0, 4096, .inl (fun i => zI (wv i))))]) (rfl) ?_
  refine hv_srt [1, 1, 0, 0] (ws' := [(m9, .inr (7, [.int (zI (rf)), .ref xt, .int (zI ((n : Int))), .ref nw, .ref tr, .ref di, .int (zI (ac)), .ref ke, .ref ik, .ref wt, .int (zI (ld)), .int (zI (sp)), .int (zI (ou))])), (xt, .inl (dA 0, 120, .inl (fun i => zI (tx i)))), (tr, .inl (dA 0, 12, .inl (fun i => zI ((sp_new 4 170) i)))), (wt, .inl (dA 0, 4096, .inl (fun i => zI (wv i))))]) rfl ?_
  refine hv_aload_n C dX9_readText_4 0 rfl ?_
  refine hv_iconst C dX9_readText_5 (v := zI (0)) rfl ?_
  refine hv_put C dX9_readText_6 (fun w h => hw_c (tw_u_9 w h)) tyX9 tyX9_ok nmX9 0 (ci := 7) (ty := .int) rfl rfl 12 (by decide) (hw_c tw_f_RX9_129) rfl rfl rfl rfl (Nat.le_of_ble_eq_true rfl) ?_
  refine hv_weq (ws' := [(m9, .inr (7, [.int (zI (rf)), .ref xt, .int (zI ((n : Int))), .ref nw, .ref tr, .ref di, .int (zI (ac)), .ref ke, .ref ik, .ref wt, .int (zI (ld)), .int (zI (sp)), .int (zI (0))])), (xt, .inl (dA 0, 120, .inl (fun i => zI (tx i)))), (tr, .inl (dA 0, 12, .inl (fun i => zI ((sp_new 4 170) i)))), (wt, .inl (dA 0, 4096, .inl (fun i => zI (wv i))))]) rfl ?_
  refine hv_aload_n C dX9_readText_9 0 rfl ?_
  refine hv_iconst C dX9_readText_10 (v := zI (0)) rfl ?_
  refine hv_put C dX9_readText_11 (fun w h => hw_c (tw_u_9 w h)) tyX9 tyX9_ok nmX9 0 (ci := 7) (ty := .int) rfl rfl 11 (by decide) (hw_c tw_f_RX9_126) rfl rfl rfl rfl (Nat.le_of_ble_eq_true rfl) ?_
  refine hv_weq (ws' := [(m9, .inr (7, [.int (zI (rf)), .ref xt, .int (zI ((n : Int))), .ref nw, .ref tr, .ref di, .int (zI (ac)), .ref ke, .ref ik, .ref wt, .int (zI (ld)), .int (zI (0)), .int (zI (0))])), (xt, .inl (dA 0, 120, .inl (fun i => zI (tx i)))), (tr, .inl (dA 0, 12, .inl (fun i => zI ((sp_new 4 170) i)))), (wt, .inl (dA 0, 4096, .inl (fun i => zI (wv i))))]) rfl ?_
  refine hv_aload_n C dX9_readText_14 0 rfl ?_
  refine hv_get C dX9_readText_15 (fun w h => hw_c (tw_u_9 w h)) 0 (ci := 7) rfl rfl 2 (by decide) (hw_c tw_f_RX9_119) rfl ?_
  refine hv_if_eq C dX9_readText_18 (tgt := 32) (by decide) (zI_eq0 (by omega)) (fun hc18 => ?_) (fun hc18 => ?_)
  · refine hv_iconst C dX9_readText_32 (v := zI (0)) rfl ?_
    exact hv_iret C M dX9_readText_33 rfl rfl ((0), (sp_new 4 170), 0, ld, wv) ⟨hl, fun q => absurd q (by unfold sx_err; rw [if_neg (by first | exact hH | (rw [sx_at_out (by omega)]; decide))]; decide)⟩ (hv_rv (by unfold sx_err; rw [if_neg (by first | exact hH | (rw [sx_at_out (by omega)]; decide))])) [] (List.Perm.of_eq (by first | rfl | exact (List.append_nil _).symm)) (Nat.le_refl _) (Nat.le_refl _)
  · refine hv_aload_n C dX9_readText_21 0 rfl ?_
    refine hv_get C dX9_readText_22 (fun w h => hw_c (tw_u_9 w h)) 0 (ci := 7) rfl rfl 1 (by decide) (hw_c tw_f_RX9_7) rfl ?_
    refine hv_iconst C dX9_readText_25 (v := zI (0)) rfl ?_
    refine hv_iald C dX9_readText_26 1 rfl (0) (rfl) (by omega) (by omega) (v := (zI (tx 0))) rfl ?_
    refine hv_bipush C dX9_readText_27 (v := zI (72)) (by decide +kernel) ?_
    have ht0 := hr 0
    refine hv_icmp_eq C dX9_readText_29 (tgt := 34) (by decide) (zI_eq (by omega)) (fun hc29 => ?_) (fun hc29 => ?_)
    · have hH : sx_at n tx 0 = 72 := by rw [sx_at_in (by omega)]; exact (by omega : tx 0 = 72)
      refine hv_aload_n C dX9_readText_34 0 rfl ?_
      refine hv_iconst C dX9_readText_35 (v := zI (1)) rfl ?_
      refine hv_put C dX9_readText_36 (fun w h => hw_c (tw_u_9 w h)) tyX9 tyX9_ok nmX9 0 (ci := 7) (ty := .int) rfl rfl 11 (by decide) (hw_c tw_f_RX9_126) rfl rfl rfl rfl (Nat.le_of_ble_eq_true rfl) ?_
      refine hv_weq (ws' := [(m9, .inr (7, [.int (zI (rf)), .ref xt, .int (zI ((n : Int))), .ref nw, .ref tr, .ref di, .int (zI (ac)), .ref ke, .ref ik, .ref wt, .int (zI (ld)), .int (zI (1)), .int (zI (0))])), (xt, .inl (dA 0, 120, .inl (fun i => zI (tx i)))), (tr, .inl (dA 0, 12, .inl (fun i => zI ((sp_new 4 170) i)))), (wt, .inl (dA 0, 4096, .inl (fun i => zI (wv i))))]) rfl ?_
      refine hv_aload_n C dX9_readText_39 1 rfl ?_
      refine hv_iconst C dX9_readText_40 (v := zI (0)) rfl ?_
      refine hv_iconst C dX9_readText_41 (v := zI (0)) rfl ?_
      refine hv_iast C dX9_readText_42 2 rfl (0) (rfl) (by omega) (by omega) ?_
      refine hv_weq (ws' := [(m9, .inr (7, [.int (zI (rf)), .ref xt, .int (zI ((n : Int))), .ref nw, .ref tr, .ref di, .int (zI (ac)), .ref ke, .ref ik, .ref wt, .int (zI (ld)), .int (zI (1)), .int (zI (0))])), (xt, .inl (dA 0, 120, .inl (fun i => zI (tx i)))), (tr, .inl (dA 0, 12, .inl (fun i => zI (sp_set (sp_new 4 170) 0 0 i)))), (wt, .inl (dA 0, 4096, .inl (fun i => zI (wv i))))]) (by rw [sp_upd]; rfl) ?_
      refine hv_aload_n C dX9_readText_43 1 rfl ?_
      refine hv_iconst C dX9_readText_44 (v := zI (1)) rfl ?_
      refine hv_iconst C dX9_readText_45 (v := zI (0)) rfl ?_
      refine hv_iast C dX9_readText_46 2 rfl (1) (rfl) (by omega) (by omega) ?_
      refine hv_weq (ws' := [(m9, .inr (7, [.int (zI (rf)), .ref xt, .int (zI ((n : Int))), .ref nw, .ref tr, .ref di, .int (zI (ac)), .ref ke, .ref ik, .ref wt, .int (zI (ld)), .int (zI (1)), .int (zI (0))])), (xt, .inl (dA 0, 120, .inl (fun i => zI (tx i)))), (tr, .inl (dA 0, 12, .inl (fun i => zI ((sp_new (0 : Int) (sx_h tx 1 0 : Int)) i)))), (wt, .inl (dA 0, 4096, .inl (fun i => zI (wv i))))]) (by rw [sp_upd, mz_new0]; rfl) ?_
      refine hv_aload_n C dX9_readText_47 0 rfl ?_
      refine hv_iconst C dX9_readText_48 (v := zI (0)) rfl ?_
      refine hv_iconst C dX9_readText_49 (v := zI (0)) rfl ?_
      refine hv_iconst C dX9_readText_50 (v := zI (3)) rfl ?_
      refine hv_callV (As := [.int (zI (0)), .int (zI (0)), .int (zI (3))]) (rest := []) (wc := [(m9, .inr (7, [.int (zI (rf)), .ref xt, .int (zI ((n : Int))), .ref nw, .ref tr, .ref di, .int (zI (ac)), .ref ke, .ref ik, .ref wt, .int (zI (ld)), .int (zI (1)), .int (zI (0))])), (xt, .inl (dA 0, 120, .inl (fun i => zI (tx i))))]) (wr := [(tr, .inl (dA 0, 12, .inl (fun i => zI ((sp_new (0 : Int) (sx_h tx 1 0 : Int)) i)))), (wt, .inl (dA 0, 4096, .inl (fun i => zI (wv i))))]) C (k_X9_digit l D dA m9 xt nw tr di ke ik wt rf n ac ld (0 + 1) 0 tx hn hr (by omega) 0 0 3 (by omega) (by omega) (by omega)) (cwV 3 C.1.2.2.2.2 (hw_V tw_m_RX9_132 tw_i_X9_digit tw_s_X9_digit tw_n_RX9 tw_k_X9_digit) rfl rfl rfl (by decide +kernel) ⟨Nat.le_of_ble_eq_true rfl, Nat.le_of_ble_eq_true rfl⟩) (hv_pm [0, 0] rfl) rfl 0 7 rfl rfl rfl (Nat.le_of_ble_eq_true rfl) dX9_readText_51 ⟨Nat.le_of_ble_eq_true rfl, Nat.le_of_ble_eq_true rfl⟩ (fun u1 hu1 => ?_)
      refine hv_eqst (st' := [.int (zI (u1.1))]) rfl ?_
      refine hv_weq (ws' := [(m9, .inr (7, [.int (zI (rf)), .ref xt, .int (zI ((n : Int))), .ref nw, .ref tr, .ref di, .int (zI (ac)), .ref ke, .ref ik, .ref wt, .int (zI (ld)), .int (zI ((u1.2 : Int))), .int (zI (0))])), (xt, .inl (dA 0, 120, .inl (fun i => zI (tx i)))), (tr, .inl (dA 0, 12, .inl (fun i => zI ((sp_new (0 : Int) (sx_h tx 1 0 : Int)) i)))), (wt, .inl (dA 0, 4096, .inl (fun i => zI (wv i))))]) (rfl) ?_
      refine hv_istore_n C dX9_readText_54 (lw := [(2, .int (zI (u1.1))), (0, .ref m9), (1, .ref tr)]) (by decide) rfl ?_
      refine hv_loop (σ := Nat × Int × Nat) (fun n9 x => x.1 + n9 = 6 ∧ sx_g n tx n9 (x.1 + 1) = sx_bs n tx ∧ ((x.2.1 = -1 ∧ x.2.2 = x.1 + 1 ∧ sx_bs n tx = x.1 + 1) ∨ (0 ≤ x.2.1 ∧ x.2.1 ≤ 3 ∧ x.2.1 = sx_at n tx ((x.1 + 1 : Nat) : Int) - 48 ∧ x.2.2 = x.1 + 2 ∧ 1 ≤ n9))) (fun x => [(m9, .inr (7, [.int (zI (rf)), .ref xt, .int (zI ((n : Int))), .ref nw, .ref tr, .ref di, .int (zI (ac)), .ref ke, .ref ik, .ref wt, .int (zI (ld)), .int (zI ((x.2.2 : Int))), .int (zI (0))])), (xt, .inl (dA 0, 120, .inl (fun i => zI (tx i)))), (tr, .inl (dA 0, 12, .inl (fun i => zI ((sp_new (x.1 : Int) (sx_h tx 1 x.1 : Int)) i)))), (wt, .inl (dA 0, 4096, .inl (fun i => zI (wv i))))]) (fun x => [(2, .int (zI (x.2.1))), (0, .ref m9), (1, .ref tr)]) (fun x => []) (fun _ => 0) (fun _ => 0) (6) ((0, u1.1, u1.2)) (⟨rfl, rfl, by dsimp only; rcases hu1 with ⟨q1, q2, q3⟩ | ⟨q1, q2, q3⟩; exact Or.inr ⟨by omega, by omega, q2, q3, by omega⟩; exact Or.inl ⟨q2, q3, mz_bs_end (m := 6) (k := 0) rfl (Or.inl (fun q => q1 ⟨by omega, by omega⟩))⟩⟩) (⟨rfl, rfl, rfl, rfl, rfl⟩) (fun n9 x hI ih => ?_)
      obtain ⟨k, dd, sq⟩ := x
      dsimp only at hI ⊢
      obtain ⟨hk6, hgb, hdd⟩ := hI
      refine hv_iload_n C dX9_readText_55 0 rfl ?_
      refine hv_iconst C dX9_readText_56 (v := zI (-1)) rfl ?_
      have hdr : -1 ≤ dd ∧ dd ≤ 3 := by omega
      refine hv_icmp_eq C dX9_readText_57 (tgt := 103) (by decide) (zI_eq (by omega)) (fun hc57 => ?_) (fun hc57 => ?_)
      · obtain ⟨hdm, rfl, hbe⟩ := hdd.resolve_right (fun q => by omega)
        refine hv_aload_n C dX9_readText_103 2 rfl ?_
        refine hv_iconst C dX9_readText_104 (v := zI (0)) rfl ?_
        refine hv_iald C dX9_readText_105 2 rfl (0) (rfl) (by omega) (by omega) (v := (zI ((k : Int)))) rfl ?_
        refine hv_iconst C dX9_readText_106 (v := zI (2)) rfl ?_
        refine hv_icmp_ge C dX9_readText_107 (tgt := 115) (by decide) (zI_le (by omega)) (fun hc107 => ?_) (fun hc107 => ?_)
        · have hbs2 : 3 ≤ sx_bs n tx := by omega
          have hl4 := mz_hl (n := n) (tx := tx) k (fun j a b => sx_g_dig n tx 6 1 j a (by show j < sx_bs n tx; omega))
          have hw0 : WF (sp_new (k : Int) (sx_h tx 1 k : Int)) := WF_new (by omega) hl4
          have hbn := mz_bsn (n := n) (tx := tx) (by omega)
          have hin0 : WF (k + 1, (sp_new (k : Int) (sx_h tx 1 k : Int)), (0 : Int), ld, wv).2.1 ∧ mz_LW (k + 1, (sp_new (k : Int) (sx_h tx 1 k : Int)), (0 : Int), ld, wv).2.2.2.1 (k + 1, (sp_new (k : Int) (sx_h tx 1 k : Int)), (0 : Int), ld, wv).2.2.2.2 ∧ ((k + 1, (sp_new (k : Int) (sx_h tx 1 k : Int)), (0 : Int), ld, wv).2.1, (k + 1, (sp_new (k : Int) (sx_h tx 1 k : Int)), (0 : Int), ld, wv).2.2.1) = ld_it n tx ((k + 1, (sp_new (k : Int) (sx_h tx 1 k : Int)), (0 : Int), ld, wv).1 - 1) ∧ sx_ff n tx 120 (k + 1, (sp_new (k : Int) (sx_h tx 1 k : Int)), (0 : Int), ld, wv).1 = sx_err n tx ∧ 1 ≤ (k + 1, (sp_new (k : Int) (sx_h tx 1 k : Int)), (0 : Int), ld, wv).1 ∧ (k + 1, (sp_new (k : Int) (sx_h tx 1 k : Int)), (0 : Int), ld, wv).1 ≤ n ∧ n ≤ (k + 1, (sp_new (k : Int) (sx_h tx 1 k : Int)), (0 : Int), ld, wv).1 + 120 := ⟨hw0, hl, by rw [mz_it0 _ (by dsimp only; omega)]; unfold ld_0; rw [hbe]; rfl, by unfold sx_err; rw [if_pos hH, if_neg (by omega), hbe], by dsimp only; omega, by dsimp only; omega, by dsimp only; omega⟩
          refine hv_lsub [1, 2] (lv' := [(0, .ref m9), (1, .ref tr)]) rfl ?_
          refine hv_loop (σ := Nat × (Nat → Int) × Int × Int × (Nat → Int)) (fun n7 x => WF x.2.1 ∧ mz_LW x.2.2.2.1 x.2.2.2.2 ∧ (x.2.1, x.2.2.1) = ld_it n tx (x.1 - 1) ∧ sx_ff n tx n7 x.1 = sx_err n tx ∧ 1 ≤ x.1 ∧ x.1 ≤ n ∧ n ≤ x.1 + n7) (fun x => [(m9, .inr (7, [.int (zI (rf)), .ref xt, .int (zI ((n : Int))), .ref nw, .ref tr, .ref di, .int (zI (ac)), .ref ke, .ref ik, .ref wt, .int (zI (x.2.2.2.1)), .int (zI ((x.1 : Int))), .int (zI (x.2.2.1))])), (xt, .inl (dA 0, 120, .inl (fun i => zI (tx i)))), (tr, .inl (dA 0, 12, .inl (fun i => zI (x.2.1 i)))), (wt, .inl (dA 0, 4096, .inl (fun i => zI (x.2.2.2.2 i))))]) (fun x => [(0, .ref m9), (1, .ref tr)]) (fun x => []) (fun _ => 0) (fun _ => 0) (120) ((k + 1, (sp_new (k : Int) (sx_h tx 1 k : Int)), 0, ld, wv)) (hin0) (⟨rfl, rfl, rfl, rfl, rfl⟩) (fun n7 x hI7 ih7 => ?_)
          obtain ⟨i, g, ou, ld5, wv5⟩ := x
          dsimp only at hI7 ⊢
          obtain ⟨hg, hl5, hit, hff, hi1, hin, hif⟩ := hI7
          refine hv_aload_n C dX9_readText_115 0 rfl ?_
          refine hv_get C dX9_readText_116 (fun w h => hw_c (tw_u_9 w h)) 0 (ci := 7) rfl rfl 11 (by decide) (hw_c tw_f_RX9_126) rfl ?_
          refine hv_aload_n C dX9_readText_119 0 rfl ?_
          refine hv_get C dX9_readText_120 (fun w h => hw_c (tw_u_9 w h)) 0 (ci := 7) rfl rfl 2 (by decide) (hw_c tw_f_RX9_119) rfl ?_
          refine hv_icmp_ge C dX9_readText_123 (tgt := 139) (by decide) (zI_le (by omega)) (fun hc123 => ?_) (fun hc123 => ?_)
          · refine hv_iconst C dX9_readText_139 (v := zI (-1)) rfl ?_
            exact hv_iret C M dX9_readText_140 rfl rfl (((i : Int)), g, ou, ld5, wv5) ⟨hl5, fun _ => (by obtain rfl : i = n := (by omega); exact hit)⟩ (hv_rv (by rw [← hff]; obtain rfl : i = n := (by omega); exact mz_ffe _)) [] (List.Perm.of_eq (by first | rfl | exact (List.append_nil _).symm)) (Nat.le_refl _) (Nat.le_refl _)
          · refine hv_aload_n C dX9_readText_126 0 rfl ?_
            refine hv_aload_n C dX9_readText_127 1 rfl ?_
            refine hv_callV (As := [.ref tr]) (rest := []) (wc := [(m9, .inr (7, [.int (zI (rf)), .ref xt, .int (zI ((n : Int))), .ref nw, .ref tr, .ref di, .int (zI (ac)), .ref ke, .ref ik, .ref wt, .int (zI (ld5)), .int (zI ((i : Int))), .int (zI (ou))])), (xt, .inl (dA 0, 120, .inl (fun i => zI (tx i)))), (tr, .inl (dA 0, 12, .inl (fun i => zI (g i)))), (wt, .inl (dA 0, 4096, .inl (fun i => zI (wv5 i))))]) (wr := []) C (k_X9_readCommand l D dA m9 xt nw tr di ke ik wt rf n ac ld5 i ou tx hn hr (by omega) g hg wv5 hl5) (cwV 1 C.1.2.2.2.2 (hw_V tw_m_RX9_156 tw_i_X9_readCommand tw_s_X9_readCommand tw_n_RX9 tw_k_X9_readCommand) rfl rfl rfl (by decide +kernel) ⟨Nat.le_of_ble_eq_true rfl, Nat.le_of_ble_eq_true rfl⟩) (hv_pm [0, 0, 0, 0] rfl) rfl 0 7 rfl rfl rfl (Nat.le_of_ble_eq_true rfl) dX9_readText_128 ⟨Nat.le_of_ble_eq_true rfl, Nat.le_of_ble_eq_true rfl⟩ (fun u9 hu9 => ?_)
            refine hv_eqst (st' := [.int (zI (zB (decide (sx_fc n tx i = -1))))]) rfl ?_
            refine hv_weq (ws' := [(m9, .inr (7, [.int (zI (rf)), .ref xt, .int (zI ((n : Int))), .ref nw, .ref tr, .ref di, .int (zI (ac)), .ref ke, .ref ik, .ref wt, .int (zI (u9.2.2.2.1)), .int (zI ((u9.1 : Int))), .int (zI (u9.2.2.1))])), (xt, .inl (dA 0, 120, .inl (fun i => zI (tx i)))), (tr, .inl (dA 0, 12, .inl (fun i => zI (u9.2.1 i)))), (wt, .inl (dA 0, 4096, .inl (fun i => zI (u9.2.2.2.2 i))))]) (rfl) ?_
            refine hv_if_ne C dX9_readText_131 (tgt := 115) (by decide) zB_n0 (fun hc131 => ?_) (fun hc131 => ?_)
            · refine hv_lsub [0, 1] (lv' := [(0, .ref m9), (1, .ref tr)]) rfl ?_
              obtain ⟨f7, rfl⟩ : ∃ q, n7 = q + 1 := ⟨n7 - 1, by omega⟩
              obtain ⟨e1, e2, e3⟩ := hu9.2.1 hc131
              have hst := mz_step hi1 (by omega) hc131
              rw [← hit] at hst
              exact ih7 f7 u9 (by omega) ⟨by rw [e2]; exact WF_cm hg _ _ _ _, hu9.1, by rw [e1, e2, e3, show i + 1 + sx_len (sx_at n tx (i : Int)) - 1 = i + sx_len (sx_at n tx (i : Int)) by omega]; exact hst.2.symm, by rw [e1, ← mz_ffs (by omega) hc131, hff], by omega, by rw [e1]; omega, by omega⟩
            · refine hv_aload_n C dX9_readText_134 0 rfl ?_
              refine hv_get C dX9_readText_135 (fun w h => hw_c (tw_u_9 w h)) 0 (ci := 7) rfl rfl 11 (by decide) (hw_c tw_f_RX9_126) rfl ?_
              exact hv_iret C M dX9_readText_138 rfl rfl (((u9.1 : Int)), u9.2.1, u9.2.2.1, u9.2.2.2.1, u9.2.2.2.2) ⟨hu9.1, fun q => absurd q (by rw [← hff]; obtain ⟨f7, rfl⟩ : ∃ q, n7 = q + 1 := ⟨n7 - 1, by omega⟩; rw [mz_fff (by omega) hc131]; exact hc131)⟩ (hv_rv (by rw [← hff]; obtain ⟨f7, rfl⟩ : ∃ q, n7 = q + 1 := ⟨n7 - 1, by omega⟩; rw [mz_fff (by omega) hc131]; exact (hu9.2.2 hc131).symm)) [] (List.Perm.of_eq (by first | rfl | exact (List.append_nil _).symm)) (Nat.le_refl _) (Nat.le_refl _)
        · refine hv_aload_n C dX9_readText_110 1 rfl ?_
          refine hv_get C dX9_readText_111 (fun w h => hw_c (tw_u_9 w h)) 0 (ci := 7) rfl rfl 11 (by decide) (hw_c tw_f_RX9_126) rfl ?_
          exact hv_iret C M dX9_readText_114 rfl rfl ((((k + 1 : Nat) : Int)), (sp_new (k : Int) (sx_h tx 1 k : Int)), 0, ld, wv) ⟨hl, fun q => absurd q (by unfold sx_err; rw [if_pos hH, if_pos (by omega)]; omega)⟩ (hv_rv (by unfold sx_err; rw [if_pos hH, if_pos (by omega), hbe])) [] (List.Perm.of_eq (by first | rfl | exact (List.append_nil _).symm)) (Nat.le_refl _) (Nat.le_refl _)
      · obtain ⟨hd0, hd3, hdx, rfl, hn91⟩ := hdd.resolve_left (fun q => hc57 q.1)
        obtain ⟨dv, rfl⟩ : ∃ dv : Nat, dd = (dv : Int) := ⟨dd.toNat, by omega⟩
        obtain ⟨m8q, rfl⟩ : ∃ q, n9 = q + 1 := ⟨n9 - 1, by omega⟩
        have hgn := mz_bs_go hgb (by omega)
        have htk : sx_at n tx ((k + 1 : Nat) : Int) = tx (k + 1) := (by have h6 := sx_at_in (n := n) (tx := tx) (z := ((k + 1 : Nat) : Int)) (by have h5 := hdx; unfold sx_at at h5; split at h5 <;> omega); rw [Int.toNat_natCast] at h6; exact h6)
        have hhs := mz_hs tx k 1
        rw [show (tx (1 + k) - 48).toNat = dv by rw [show 1 + k = k + 1 by omega]; omega] at hhs
        refine hv_aload_n C dX9_readText_60 2 rfl ?_
        refine hv_iconst C dX9_readText_61 (v := zI (1)) rfl ?_
        refine hv_dup2_11 C dX9_readText_62 rfl rfl ?_
        refine hv_iald C dX9_readText_63 2 rfl (1) (rfl) (by omega) (by omega) (v := (zI ((sx_h tx 1 k : Int)))) rfl ?_
        refine hv_iload_n C dX9_readText_64 0 rfl ?_
        refine hv_iconst C dX9_readText_65 (v := zI (2)) rfl ?_
        refine hv_aload_n C dX9_readText_66 2 rfl ?_
        refine hv_iconst C dX9_readText_67 (v := zI (0)) rfl ?_
        refine hv_iald C dX9_readText_68 2 rfl (0) (rfl) (by omega) (by omega) (v := (zI ((k : Int)))) rfl ?_
        refine hv_imul C dX9_readText_69 (zI_mul _ _) ?_
        refine hv_ishl C dX9_readText_70 rfl ?_
        refine hv_topi (y := zI (((dv * 4 ^ k : Nat) : Int))) (by exact sp_shl k (by omega) dv (by omega)) ?_
        refine hv_iadd C dX9_readText_71 (z := zI ((sx_h tx 1 (k + 1) : Int))) ((zI_add _ _).trans (zI_c (by omega))) ?_
        refine hv_iast C dX9_readText_72 2 rfl (1) (rfl) (by omega) (by omega) ?_
        refine hv_weq (ws' := [(m9, .inr (7, [.int (zI (rf)), .ref xt, .int (zI ((n : Int))), .ref nw, .ref tr, .ref di, .int (zI (ac)), .ref ke, .ref ik, .ref wt, .int (zI (ld)), .int (zI (((k + 2 : Nat) : Int))), .int (zI (0))])), (xt, .inl (dA 0, 120, .inl (fun i => zI (tx i)))), (tr, .inl (dA 0, 12, .inl (fun i => zI (sp_set (sp_new (k : Int) (sx_h tx 1 k : Int)) 1 (sx_h tx 1 (k + 1) : Int) i)))), (wt, .inl (dA 0, 4096, .inl (fun i => zI (wv i))))]) (by rw [sp_upd]; rfl) ?_
        refine hv_aload_n C dX9_readText_73 2 rfl ?_
        refine hv_iconst C dX9_readText_74 (v := zI (0)) rfl ?_
        refine hv_dup2_11 C dX9_readText_75 rfl rfl ?_
        refine hv_iald C dX9_readText_76 2 rfl (0) (rfl) (by omega) (by omega) (v := (zI ((k : Int)))) rfl ?_
        refine hv_iconst C dX9_readText_77 (v := zI (1)) rfl ?_
        refine hv_iadd C dX9_readText_78 (z := zI (((k + 1 : Nat) : Int))) ((zI_add _ _).trans (zI_c (by omega))) ?_
        refine hv_iast C dX9_readText_79 2 rfl (0) (rfl) (by omega) (by omega) ?_
        refine hv_weq (ws' := [(m9, .inr (7, [.int (zI (rf)), .ref xt, .int (zI ((n : Int))), .ref nw, .ref tr, .ref di, .int (zI (ac)), .ref ke, .ref ik, .ref wt, .int (zI (ld)), .int (zI (((k + 2 : Nat) : Int))), .int (zI (0))])), (xt, .inl (dA 0, 120, .inl (fun i => zI (tx i)))), (tr, .inl (dA 0, 12, .inl (fun i => zI ((sp_new ((k + 1 : Nat) : Int) (sx_h tx 1 (k + 1) : Int)) i)))), (wt, .inl (dA 0, 4096, .inl (fun i => zI (wv i))))]) (by rw [sp_upd, mz_new1]; rfl) ?_
        refine hv_aload_n C dX9_readText_80 2 rfl ?_
        refine hv_iconst C dX9_readText_81 (v := zI (0)) rfl ?_
        refine hv_iald C dX9_readText_82 2 rfl (0) (rfl) (by omega) (by omega) (v := (zI (((k + 1 : Nat) : Int)))) rfl ?_
        refine hv_bipush C dX9_readText_83 (v := zI (6)) (by decide +kernel) ?_
        refine hv_icmp_ge C dX9_readText_85 (tgt := 98) (by decide) (zI_le (by omega)) (fun hc85 => ?_) (fun hc85 => ?_)
        · refine hv_iconst C dX9_readText_98 (v := zI (-1)) rfl ?_
          refine hv_istore_n C dX9_readText_99 (lw := [(2, .int (zI (-1))), (0, .ref m9), (1, .ref tr)]) (by decide) rfl ?_
          refine hv_goto C dX9_readText_100 (tgt := 55) (by decide) ?_
          refine hv_lsub [0, 1, 2] (lv' := [(2, .int (zI (-1))), (0, .ref m9), (1, .ref tr)]) rfl ?_
          obtain rfl : k = 5 := (by omega)
          exact ih m8q (6, -1, 7) (by omega) ⟨by dsimp only; omega, hgn, by dsimp only; exact Or.inl ⟨rfl, rfl, mz_bs_end (k := 6) hgn (Or.inr (by omega))⟩⟩
        · refine hv_aload_n C dX9_readText_88 1 rfl ?_
          refine hv_iconst C dX9_readText_89 (v := zI (0)) rfl ?_
          refine hv_iconst C dX9_readText_90 (v := zI (0)) rfl ?_
          refine hv_iconst C dX9_readText_91 (v := zI (3)) rfl ?_
          refine hv_callV (As := [.int (zI (0)), .int (zI (0)), .int (zI (3))]) (rest := []) (wc := [(m9, .inr (7, [.int (zI (rf)), .ref xt, .int (zI ((n : Int))), .ref nw, .ref tr, .ref di, .int (zI (ac)), .ref ke, .ref ik, .ref wt, .int (zI (ld)), .int (zI (((k + 2 : Nat) : Int))), .int (zI (0))])), (xt, .inl (dA 0, 120, .inl (fun i => zI (tx i))))]) (wr := [(tr, .inl (dA 0, 12, .inl (fun i => zI ((sp_new ((k + 1 : Nat) : Int) (sx_h tx 1 (k + 1) : Int)) i)))), (wt, .inl (dA 0, 4096, .inl (fun i => zI (wv i))))]) C (k_X9_digit l D dA m9 xt nw tr di ke ik wt rf n ac ld (k + 1 + 1) 0 tx hn hr (by omega) 0 0 3 (by omega) (by omega) (by omega)) (cwV 3 C.1.2.2.2.2 (hw_V tw_m_RX9_132 tw_i_X9_digit tw_s_X9_digit tw_n_RX9 tw_k_X9_digit) rfl rfl rfl (by decide +kernel) ⟨Nat.le_of_ble_eq_true rfl, Nat.le_of_ble_eq_true rfl⟩) (hv_pm [0, 0] rfl) rfl 0 7 rfl rfl rfl (Nat.le_of_ble_eq_true rfl) dX9_readText_92 ⟨Nat.le_of_ble_eq_true rfl, Nat.le_of_ble_eq_true rfl⟩ (fun u8 hu8 => ?_)
          refine hv_eqst (st' := [.int (zI (u8.1))]) rfl ?_
          refine hv_weq (ws' := [(m9, .inr (7, [.int (zI (rf)), .ref xt, .int (zI ((n : Int))), .ref nw, .ref tr, .ref di, .int (zI (ac)), .ref ke, .ref ik, .ref wt, .int (zI (ld)), .int (zI ((u8.2 : Int))), .int (zI (0))])), (xt, .inl (dA 0, 120, .inl (fun i => zI (tx i)))), (tr, .inl (dA 0, 12, .inl (fun i => zI ((sp_new ((k + 1 : Nat) : Int) (sx_h tx 1 (k + 1) : Int)) i)))), (wt, .inl (dA 0, 4096, .inl (fun i => zI (wv i))))]) (rfl) ?_
          refine hv_goto C dX9_readText_95 (tgt := 99) (by decide) ?_
          refine hv_istore_n C dX9_readText_99 (lw := [(2, .int (zI (u8.1))), (0, .ref m9), (1, .ref tr)]) (by decide) rfl ?_
          refine hv_goto C dX9_readText_100 (tgt := 55) (by decide) ?_
          refine hv_lsub [0, 1, 2] (lv' := [(2, .int (zI (u8.1))), (0, .ref m9), (1, .ref tr)]) rfl ?_
          exact ih m8q (k + 1, u8.1, u8.2) (by omega) ⟨by dsimp only; omega, hgn, by dsimp only; rcases hu8 with ⟨q1, q2, q3⟩ | ⟨q1, q2, q3⟩; exact Or.inr ⟨by omega, by omega, q2, by omega, by omega⟩; exact Or.inl ⟨q2, by omega, mz_bs_end hgn (Or.inl (fun q => q1 ⟨by omega, by omega, by omega⟩))⟩⟩
    · have hH : ¬ sx_at n tx 0 = 72 := by rw [sx_at_in (by omega)]; exact hc29
      refine hv_iconst C dX9_readText_32 (v := zI (0)) rfl ?_
      exact hv_iret C M dX9_readText_33 rfl rfl ((0), (sp_new 4 170), 0, ld, wv) ⟨hl, fun q => absurd q (by unfold sx_err; rw [if_neg (by first | exact hH | (rw [sx_at_out (by omega)]; decide))]; decide)⟩ (hv_rv (by unfold sx_err; rw [if_neg (by first | exact hH | (rw [sx_at_out (by omega)]; decide))])) [] (List.Perm.of_eq (by first | rfl | exact (List.append_nil _).symm)) (Nat.le_refl _) (Nat.le_refl _)

set_option maxHeartbeats 4000000 in
set_option maxRecDepth 100000 in
theorem k_X9_errorPosition (l : Launch) (D : va_G) (dA : Nat → ClassId) (m9 xt nw tr di ke ik wt : Nat) (rf : Int) (n : Nat) (ac ld sp ou : Int) (t : Nat → Int) (tx : Nat → Int) (hn : n ≤ 120) (hr : sx_rg tx) (wv : Nat → Int) (hl : mz_LW ld wv) : hv_Ct l yX9_errorPosition (hw_W yX9_errorPosition cX9_errorPosition 1 (some .int)) 12 D dA [.ref m9] ([(m9, .inr (7, [.int (zI (rf)), .ref xt, .int (zI ((n : Int))), .ref nw, .ref tr, .ref di, .int (zI (ac)), .ref ke, .ref ik, .ref wt, .int (zI (ld)), .int (zI (sp)), .int (zI (ou))])), (xt, .inl (dA 0, 120, .inl (fun i => zI (tx i)))), (tr, .inl (dA 0, 12, .inl (fun i => zI (t i)))), (wt, .inl (dA 0, 4096, .inl (fun i => zI (wv i))))]) 0 0 (S := Int × (Nat → Int) × Int × Int × (Nat → Int)) (fun _ => some (.int (zI (sx_err n tx)))) (fun u => mz_LW u.2.2.2.1 u.2.2.2.2 ∧ (sx_err n tx = -1 → (u.2.1, u.2.2.1) = ld_it n tx (n - 1))) (fun u => [(m9, .inr (7, [.int (zI (0)), .ref xt, .int (zI ((n : Int))), .ref nw, .ref tr, .ref di, .int (zI (ac)), .ref ke, .ref ik, .ref wt, .int (zI (u.2.2.2.1)), .int (zI (u.1)), .int (zI (u.2.2.1))])), (xt, .inl (dA 0, 120, .inl (fun i => zI (tx i)))), (tr, .inl (dA 0, 12, .inl (fun i => zI (u.2.1 i)))), (wt, .inl (dA 0, 4096, .inl (fun i => zI (u.2.2.2.2 i))))]) := by
  refine hv_of (cc := cX9_errorPosition) (maxL := 1) (ret := (some .int)) (own := RX9) rfl (by decide) rfl (Nat.le_of_ble_eq_true rfl) ?_
  intro p e s m args below meth c C M
  refine hv_lveq (lv' := [(0, .ref m9)]) rfl ?_
  refine hv_aload_n C dX9_errorPosition_0 0 rfl ?_
  refine hv_iconst C dX9_errorPosition_1 (v := zI (0)) rfl ?_
  refine hv_put C dX9_errorPosition_2 (fun w h => hw_c (tw_u_9 w h)) tyX9 tyX9_ok nmX9 0 (ci := 7) (ty := .int) rfl rfl 0 (by decide) (hw_c tw_f_RX9_40) rfl rfl rfl rfl (Nat.le_of_ble_eq_true rfl) ?_
  refine hv_weq (ws' := [(m9, .inr (7, [.int (zI (0)), .ref xt, .int (zI ((n : Int))), .ref nw, .ref tr, .ref di, .int (zI (ac)), .ref ke, .ref ik, .ref wt, .int (zI (ld)), .int (zI (sp)), .int (zI (ou))])), (xt, .inl (dA 0, 120, .inl (fun i => zI (tx i)))), (tr, .inl (dA 0, 12, .inl (fun i => zI (t i)))), (wt, .inl (dA 0, 4096, .inl (fun i => zI (wv i))))]) rfl ?_
  refine hv_aload_n C dX9_errorPosition_5 0 rfl ?_
  refine hv_aload_n C dX9_errorPosition_6 0 rfl ?_
  refine hv_get C dX9_errorPosition_7 (fun w h => hw_c (tw_u_9 w h)) 0 (ci := 7) rfl rfl 4 (by decide) (hw_c tw_f_RX9_16) rfl ?_
  refine hv_callV (As := [.ref tr]) (rest := []) (wc := [(m9, .inr (7, [.int (zI (0)), .ref xt, .int (zI ((n : Int))), .ref nw, .ref tr, .ref di, .int (zI (ac)), .ref ke, .ref ik, .ref wt, .int (zI (ld)), .int (zI (sp)), .int (zI (ou))])), (xt, .inl (dA 0, 120, .inl (fun i => zI (tx i)))), (tr, .inl (dA 0, 12, .inl (fun i => zI (t i)))), (wt, .inl (dA 0, 4096, .inl (fun i => zI (wv i))))]) (wr := []) C (k_X9_readText l D dA m9 xt nw tr di ke ik wt 0 n ac ld sp ou t tx hn hr wv hl) (cwV 1 C.1.2.2.2.2 (hw_V tw_m_RX9_159 tw_i_X9_readText tw_s_X9_readText tw_n_RX9 tw_k_X9_readText) rfl rfl rfl (by decide +kernel) ⟨Nat.le_of_ble_eq_true rfl, Nat.le_of_ble_eq_true rfl⟩) (hv_pm [0, 0, 0, 0] rfl) rfl 0 7 rfl rfl rfl (Nat.le_of_ble_eq_true rfl) dX9_errorPosition_10 ⟨Nat.le_of_ble_eq_true rfl, Nat.le_of_ble_eq_true rfl⟩ (fun u6 hu6 => ?_)
  refine hv_eqst (st' := [.int (zI (sx_err n tx))]) rfl ?_
  refine hv_weq (ws' := [(m9, .inr (7, [.int (zI (0)), .ref xt, .int (zI ((n : Int))), .ref nw, .ref tr, .ref di, .int (zI (ac)), .ref ke, .ref ik, .ref wt, .int (zI (u6.2.2.2.1)), .int (zI (u6.1)), .int (zI (u6.2.2.1))])), (xt, .inl (dA 0, 120, .inl (fun i => zI (tx i)))), (tr, .inl (dA 0, 12, .inl (fun i => zI (u6.2.1 i)))), (wt, .inl (dA 0, 4096, .inl (fun i => zI (u6.2.2.2.2 i))))]) (rfl) ?_
  exact hv_iret C M dX9_errorPosition_13 rfl rfl u6 hu6 rfl [] (List.Perm.of_eq (by first | rfl | exact (List.append_nil _).symm)) (Nat.le_refl _) (Nat.le_refl _)

set_option maxHeartbeats 4000000 in
set_option maxRecDepth 100000 in
theorem k_X9_load (l : Launch) (D : va_G) (dA : Nat → ClassId) (m9 xt nw tr di ke ik wt : Nat) (rf : Int) (n : Nat) (ac ld sp ou : Int) (t : Nat → Int) (tx : Nat → Int) (hn : n ≤ 120) (hr : sx_rg tx) (wv : Nat → Int) (hl : mz_LW ld wv) (g : Nat → Int) (sal : Nat → Bool) : hv_Ct l yX9_load (hw_W yX9_load cX9_load 1 (some .int)) 13 D dA [.ref m9] ([(m9, .inr (7, [.int (zI (rf)), .ref xt, .int (zI ((n : Int))), .ref nw, .ref tr, .ref di, .int (zI (ac)), .ref ke, .ref ik, .ref wt, .int (zI (ld)), .int (zI (sp)), .int (zI (ou))])), (xt, .inl (dA 0, 120, .inl (fun i => zI (tx i)))), (nw, .inl (dA 0, 12, .inl (fun i => zI (g i)))), (tr, .inl (dA 0, 12, .inl (fun i => zI (t i)))), (ik, .inl (dA 3, 2, .inl (fun i => zI (zB (sal i))))), (wt, .inl (dA 0, 4096, .inl (fun i => zI (wv i))))]) 0 0 (S := Int × (Nat → Int) × Int × Int × (Nat → Int)) (fun _ => mz_w (xc_load n tx) (some (.int (zI (ld_it n tx (n - 1)).2))) (some (.int (zI 0)))) (fun u => mz_LW u.2.2.2.1 u.2.2.2.2) (fun u => mz_w (xc_load n tx) ([(m9, .inr (7, [.int (zI (mz_k1 (xc_load n tx))), .ref xt, .int (zI ((n : Int))), .ref nw, .ref tr, .ref di, .int (zI (0)), .ref ke, .ref ik, .ref wt, .int (zI (u.2.2.2.1)), .int (zI (u.1)), .int (zI (u.2.2.1))])), (xt, .inl (dA 0, 120, .inl (fun i => zI (tx i)))), (nw, .inl (dA 0, 12, .inl (fun i => zI ((ld_it n tx (n - 1)).1 i)))), (tr, .inl (dA 0, 12, .inl (fun i => zI (u.2.1 i)))), (ik, .inl (dA 3, 2, .inl (fun i => zI (zB ((ld_s sal) i))))), (wt, .inl (dA 0, 4096, .inl (fun i => zI (u.2.2.2.2 i))))]) ([(m9, .inr (7, [.int (zI (mz_k1 (xc_load n tx))), .ref xt, .int (zI ((n : Int))), .ref nw, .ref tr, .ref di, .int (zI (ac)), .ref ke, .ref ik, .ref wt, .int (zI (u.2.2.2.1)), .int (zI (u.1)), .int (zI (u.2.2.1))])), (xt, .inl (dA 0, 120, .inl (fun i => zI (tx i)))), (nw, .inl (dA 0, 12, .inl (fun i => zI (g i)))), (tr, .inl (dA 0, 12, .inl (fun i => zI (u.2.1 i)))), (ik, .inl (dA 3, 2, .inl (fun i => zI (zB (sal i))))), (wt, .inl (dA 0, 4096, .inl (fun i => zI (u.2.2.2.2 i))))])) := by
  have her := ld_err hn tx
  refine hv_of (cc := cX9_load) (maxL := 1) (ret := (some .int)) (own := RX9) rfl (by decide) rfl (Nat.le_of_ble_eq_true rfl) ?_
  intro p e s m args below meth c C M
  refine hv_lveq (lv' := [(0, .ref m9)]) rfl ?_
  refine hv_aload_n C dX9_load_0 0 rfl ?_
  refine hv_aload_n C dX9_load_1 0 rfl ?_
  refine hv_aload_n C dX9_load_2 0 rfl ?_
  refine hv_get C dX9_load_3 (fun w h => hw_c (tw_u_9 w h)) 0 (ci := 7) rfl rfl 4 (by decide) (hw_c tw_f_RX9_16) rfl ?_
  refine hv_callV (As := [.ref tr]) (rest := [.ref m9]) (wc := [(m9, .inr (7, [.int (zI (rf)), .ref xt, .int (zI ((n : Int))), .ref nw, .ref tr, .ref di, .int (zI (ac)), .ref ke, .ref ik, .ref wt, .int (zI (ld)), .int (zI (sp)), .int (zI (ou))])), (xt, .inl (dA 0, 120, .inl (fun i => zI (tx i)))), (tr, .inl (dA 0, 12, .inl (fun i => zI (t i)))), (wt, .inl (dA 0, 4096, .inl (fun i => zI (wv i))))]) (wr := [(nw, .inl (dA 0, 12, .inl (fun i => zI (g i)))), (ik, .inl (dA 3, 2, .inl (fun i => zI (zB (sal i)))))]) C (k_X9_readText l D dA m9 xt nw tr di ke ik wt rf n ac ld sp ou t tx hn hr wv hl) (cwV 1 C.1.2.2.2.2 (hw_V tw_m_RX9_159 tw_i_X9_readText tw_s_X9_readText tw_n_RX9 tw_k_X9_readText) rfl rfl rfl (by decide +kernel) ⟨Nat.le_of_ble_eq_true rfl, Nat.le_of_ble_eq_true rfl⟩) (hv_pm [0, 0, 1, 2] rfl) rfl 0 7 rfl rfl rfl (Nat.le_of_ble_eq_true rfl) dX9_load_6 ⟨Nat.le_of_ble_eq_true rfl, Nat.le_of_ble_eq_true rfl⟩ (fun u6 hu6 => ?_)
  refine hv_eqst (st' := [.int (zI (sx_err n tx)), .ref m9]) rfl ?_
  refine hv_weq (ws' := [(m9, .inr (7, [.int (zI (rf)), .ref xt, .int (zI ((n : Int))), .ref nw, .ref tr, .ref di, .int (zI (ac)), .ref ke, .ref ik, .ref wt, .int (zI (u6.2.2.2.1)), .int (zI (u6.1)), .int (zI (u6.2.2.1))])), (xt, .inl (dA 0, 120, .inl (fun i => zI (tx i)))), (tr, .inl (dA 0, 12, .inl (fun i => zI (u6.2.1 i)))), (wt, .inl (dA 0, 4096, .inl (fun i => zI (u6.2.2.2.2 i)))), (nw, .inl (dA 0, 12, .inl (fun i => zI (g i)))), (ik, .inl (dA 3, 2, .inl (fun i => zI (zB (sal i)))))]) (rfl) ?_
  refine hv_srt [0, 0, 2, 0, 1, 0] (ws' := [(m9, .inr (7, [.int (zI (rf)), .ref xt, .int (zI ((n : Int))), .ref nw, .ref tr, .ref di, .int (zI (ac)), .ref ke, .ref ik, .ref wt, .int (zI (u6.2.2.2.1)), .int (zI (u6.1)), .int (zI (u6.2.2.1))])), (xt, .inl (dA 0, 120, .inl (fun i => zI (tx i)))), (nw, .inl (dA 0, 12, .inl (fun i => zI (g i)))), (tr, .inl (dA 0, 12, .inl (fun i => zI (u6.2.1 i)))), (ik, .inl (dA 3, 2, .inl (fun i => zI (zB (sal i))))), (wt, .inl (dA 0, 4096, .inl (fun i => zI (u6.2.2.2.2 i))))]) rfl ?_
  refine hv_iconst C dX9_load_9 (v := zI (-1)) rfl ?_
  refine hv_icmp_ne C dX9_load_10 (tgt := 17) (by decide) (zI_ne (by omega)) (fun hc10 => ?_) (fun hc10 => ?_)
  · refine hv_iconst C dX9_load_17 (v := zI (1)) rfl ?_
    refine hv_callV (As := [.int (zI (1))]) (rest := []) (wc := [(m9, .inr (7, [.int (zI (rf)), .ref xt, .int (zI ((n : Int))), .ref nw, .ref tr, .ref di, .int (zI (ac)), .ref ke, .ref ik, .ref wt, .int (zI (u6.2.2.2.1)), .int (zI (u6.1)), .int (zI (u6.2.2.1))]))]) (wr := [(xt, .inl (dA 0, 120, .inl (fun i => zI (tx i)))), (nw, .inl (dA 0, 12, .inl (fun i => zI (g i)))), (tr, .inl (dA 0, 12, .inl (fun i => zI (u6.2.1 i)))), (ik, .inl (dA 3, 2, .inl (fun i => zI (zB (sal i))))), (wt, .inl (dA 0, 4096, .inl (fun i => zI (u6.2.2.2.2 i))))]) C (k_X9_refused l D dA m9 xt nw tr di ke ik wt (rf) ((n : Int)) (ac) (u6.2.2.2.1) (u6.1) (u6.2.2.1) 1 (by omega)) (cwV 1 C.1.2.2.2.2 (hw_V tw_m_RX9_122 tw_i_X9_refused tw_s_X9_refused tw_n_RX9 tw_k_X9_refused) rfl rfl rfl (by decide +kernel) ⟨Nat.le_of_ble_eq_true rfl, Nat.le_of_ble_eq_true rfl⟩) (hv_pm [0] rfl) rfl 0 7 rfl rfl rfl (Nat.le_of_ble_eq_true rfl) dX9_load_18 ⟨Nat.le_of_ble_eq_true rfl, Nat.le_of_ble_eq_true rfl⟩ (fun _ _ => ?_)
    have e9 : xc_load n tx = some hx_ISE := by unfold xc_load; rw [if_neg (by omega)]
    have e8 : mz_k1 (xc_load n tx) = 1 := by rw [e9]; exact mz_k1s
    refine hv_eqst (st' := [.int (zI (zB (decide ((0 : Int) < 1))))]) rfl ?_
    refine hv_weq (ws' := [(m9, .inr (7, [.int (zI (1)), .ref xt, .int (zI ((n : Int))), .ref nw, .ref tr, .ref di, .int (zI (ac)), .ref ke, .ref ik, .ref wt, .int (zI (u6.2.2.2.1)), .int (zI (u6.1)), .int (zI (u6.2.2.1))])), (xt, .inl (dA 0, 120, .inl (fun i => zI (tx i)))), (nw, .inl (dA 0, 12, .inl (fun i => zI (g i)))), (tr, .inl (dA 0, 12, .inl (fun i => zI (u6.2.1 i)))), (ik, .inl (dA 3, 2, .inl (fun i => zI (zB (sal i))))), (wt, .inl (dA 0, 4096, .inl (fun i => zI (u6.2.2.2.2 i))))]) (rfl) ?_
    refine hv_if_eq C dX9_load_21 (tgt := 26) (by decide) zB_0 (fun hc21 => ?_) (fun hc21 => ?_)
    · exact absurd hc21 (by omega)
    · refine hv_iconst C dX9_load_24 (v := zI (0)) rfl ?_
      exact hv_iret C M dX9_load_25 rfl rfl u6 hu6.1 (by rw [e9]; rfl) [] (List.Perm.of_eq (by rw [e8, e9]; rfl)) (Nat.le_refl _) (Nat.le_refl _)
  · refine hv_iconst C dX9_load_13 (v := zI (0)) rfl ?_
    refine hv_goto C dX9_load_14 (tgt := 18) (by decide) ?_
    refine hv_callV (As := [.int (zI (0))]) (rest := []) (wc := [(m9, .inr (7, [.int (zI (rf)), .ref xt, .int (zI ((n : Int))), .ref nw, .ref tr, .ref di, .int (zI (ac)), .ref ke, .ref ik, .ref wt, .int (zI (u6.2.2.2.1)), .int (zI (u6.1)), .int (zI (u6.2.2.1))]))]) (wr := [(xt, .inl (dA 0, 120, .inl (fun i => zI (tx i)))), (nw, .inl (dA 0, 12, .inl (fun i => zI (g i)))), (tr, .inl (dA 0, 12, .inl (fun i => zI (u6.2.1 i)))), (ik, .inl (dA 3, 2, .inl (fun i => zI (zB (sal i))))), (wt, .inl (dA 0, 4096, .inl (fun i => zI (u6.2.2.2.2 i))))]) C (k_X9_refused l D dA m9 xt nw tr di ke ik wt (rf) ((n : Int)) (ac) (u6.2.2.2.1) (u6.1) (u6.2.2.1) 0 (by omega)) (cwV 1 C.1.2.2.2.2 (hw_V tw_m_RX9_122 tw_i_X9_refused tw_s_X9_refused tw_n_RX9 tw_k_X9_refused) rfl rfl rfl (by decide +kernel) ⟨Nat.le_of_ble_eq_true rfl, Nat.le_of_ble_eq_true rfl⟩) (hv_pm [0] rfl) rfl 0 7 rfl rfl rfl (Nat.le_of_ble_eq_true rfl) dX9_load_18 ⟨Nat.le_of_ble_eq_true rfl, Nat.le_of_ble_eq_true rfl⟩ (fun _ _ => ?_)
    have e9 : xc_load n tx = none := by unfold xc_load; rw [if_pos (by omega)]
    have e8 : mz_k1 (xc_load n tx) = 0 := by rw [e9]; exact mz_k1n
    refine hv_eqst (st' := [.int (zI (zB (decide ((0 : Int) < 0))))]) rfl ?_
    refine hv_weq (ws' := [(m9, .inr (7, [.int (zI (0)), .ref xt, .int (zI ((n : Int))), .ref nw, .ref tr, .ref di, .int (zI (ac)), .ref ke, .ref ik, .ref wt, .int (zI (u6.2.2.2.1)), .int (zI (u6.1)), .int (zI (u6.2.2.1))])), (xt, .inl (dA 0, 120, .inl (fun i => zI (tx i)))), (nw, .inl (dA 0, 12, .inl (fun i => zI (g i)))), (tr, .inl (dA 0, 12, .inl (fun i => zI (u6.2.1 i)))), (ik, .inl (dA 3, 2, .inl (fun i => zI (zB (sal i))))), (wt, .inl (dA 0, 4096, .inl (fun i => zI (u6.2.2.2.2 i))))]) (rfl) ?_
    refine hv_if_eq C dX9_load_21 (tgt := 26) (by decide) zB_0 (fun hc21 => ?_) (fun hc21 => ?_)
    · have hse : sx_err n tx = -1 := by unfold xc_load at e9; by_cases q : sx_err n tx = -1; exact q; (rw [if_neg q] at e9; exact absurd e9 (by simp))
      refine hv_aload_n C dX9_load_26 0 rfl ?_
      refine hv_get C dX9_load_27 (fun w h => hw_c (tw_u_9 w h)) 0 (ci := 7) rfl rfl 4 (by decide) (hw_c tw_f_RX9_16) rfl ?_
      refine hv_iconst C dX9_load_30 (v := zI (0)) rfl ?_
      refine hv_aload_n C dX9_load_31 0 rfl ?_
      refine hv_get C dX9_load_32 (fun w h => hw_c (tw_u_9 w h)) 0 (ci := 7) rfl rfl 3 (by decide) (hw_c tw_f_RX9_13) rfl ?_
      refine hv_iconst C dX9_load_35 (v := zI (0)) rfl ?_
      refine hv_callS (As := [.ref tr, .int (zI (0)), .ref nw, .int (zI (0))]) (rest := []) (wc := [(tr, .inl (dA 0, 12, .inl (fun i => zI (u6.2.1 i)))), (nw, .inl (dA 0, 12, .inl (fun i => zI (g i))))]) (wr := [(m9, .inr (7, [.int (zI (0)), .ref xt, .int (zI ((n : Int))), .ref nw, .ref tr, .ref di, .int (zI (ac)), .ref ke, .ref ik, .ref wt, .int (zI (u6.2.2.2.1)), .int (zI (u6.1)), .int (zI (u6.2.2.1))])), (xt, .inl (dA 0, 120, .inl (fun i => zI (tx i)))), (ik, .inl (dA 3, 2, .inl (fun i => zI (zB (sal i))))), (wt, .inl (dA 0, 4096, .inl (fun i => zI (u6.2.2.2.2 i))))]) C (k_X9_copyState l D dA tr nw 12 12 u6.2.1 g 0 0 rfl rfl (by omega) (by omega) (by omega) (by omega)) (va_cwS 4 C.1.2.2.2.2 (hw_S tw_m_RX9_162 tw_t_X9_copyState tw_n_RX9 tw_k_X9_copyState) rfl rfl rfl (by decide +kernel) ⟨Nat.le_of_ble_eq_true rfl, Nat.le_of_ble_eq_true rfl⟩) (hv_pm [3, 2] rfl) rfl rfl (Nat.le_of_ble_eq_true rfl) dX9_load_36 ⟨Nat.le_of_ble_eq_true rfl, Nat.le_of_ble_eq_true rfl⟩ (fun _ _ => ?_)
      refine hv_eqst (st' := []) rfl ?_
      refine hv_weq (ws' := [(tr, .inl (dA 0, 12, .inl (fun i => zI (u6.2.1 i)))), (nw, .inl (dA 0, 12, .inl (fun i => zI ((mz_c g u6.2.1 0 0 12) i)))), (m9, .inr (7, [.int (zI (0)), .ref xt, .int (zI ((n : Int))), .ref nw, .ref tr, .ref di, .int (zI (ac)), .ref ke, .ref ik, .ref wt, .int (zI (u6.2.2.2.1)), .int (zI (u6.1)), .int (zI (u6.2.2.1))])), (xt, .inl (dA 0, 120, .inl (fun i => zI (tx i)))), (ik, .inl (dA 3, 2, .inl (fun i => zI (zB (sal i))))), (wt, .inl (dA 0, 4096, .inl (fun i => zI (u6.2.2.2.2 i))))]) (rfl) ?_
      refine hv_srt [2, 2, 1, 0, 0, 0] (ws' := [(m9, .inr (7, [.int (zI (0)), .ref xt, .int (zI ((n : Int))), .ref nw, .ref tr, .ref di, .int (zI (ac)), .ref ke, .ref ik, .ref wt, .int (zI (u6.2.2.2.1)), .int (zI (u6.1)), .int (zI (u6.2.2.1))])), (xt, .inl (dA 0, 120, .inl (fun i => zI (tx i)))), (nw, .inl (dA 0, 12, .inl (fun i => zI ((mz_c g u6.2.1 0 0 12) i)))), (tr, .inl (dA 0, 12, .inl (fun i => zI (u6.2.1 i)))), (ik, .inl (dA 3, 2, .inl (fun i => zI (zB (sal i))))), (wt, .inl (dA 0, 4096, .inl (fun i => zI (u6.2.2.2.2 i))))]) rfl ?_
      refine hv_acg 2 (f' := fun i => zI ((ld_it n tx (n - 1)).1 i)) rfl (fun i hi => ?_) rfl ?_
      · exact congrArg zI ((by rw [mz_c_eq, if_pos (by omega), ← hu6.2 hse, show 0 + (i - 0) = i by omega]))
      refine hv_aload_n C dX9_load_39 0 rfl ?_
      refine hv_iconst C dX9_load_40 (v := zI (0)) rfl ?_
      refine hv_put C dX9_load_41 (fun w h => hw_c (tw_u_9 w h)) tyX9 tyX9_ok nmX9 0 (ci := 7) (ty := .int) rfl rfl 6 (by decide) (hw_c tw_f_RX9_166) rfl rfl rfl rfl (Nat.le_of_ble_eq_true rfl) ?_
      refine hv_weq (ws' := [(m9, .inr (7, [.int (zI (0)), .ref xt, .int (zI ((n : Int))), .ref nw, .ref tr, .ref di, .int (zI (0)), .ref ke, .ref ik, .ref wt, .int (zI (u6.2.2.2.1)), .int (zI (u6.1)), .int (zI (u6.2.2.1))])), (xt, .inl (dA 0, 120, .inl (fun i => zI (tx i)))), (nw, .inl (dA 0, 12, .inl (fun i => zI ((ld_it n tx (n - 1)).1 i)))), (tr, .inl (dA 0, 12, .inl (fun i => zI (u6.2.1 i)))), (ik, .inl (dA 3, 2, .inl (fun i => zI (zB (sal i))))), (wt, .inl (dA 0, 4096, .inl (fun i => zI (u6.2.2.2.2 i))))]) rfl ?_
      refine hv_aload_n C dX9_load_44 0 rfl ?_
      refine hv_get C dX9_load_45 (fun w h => hw_c (tw_u_9 w h)) 0 (ci := 7) rfl rfl 8 (by decide) (hw_c tw_f_RX9_25) rfl ?_
      refine hv_iconst C dX9_load_48 (v := zI (0)) rfl ?_
      refine hv_iconst C dX9_load_49 (v := zI (0)) rfl ?_
      refine hv_zast C dX9_load_50 4 rfl (0) (rfl) (by omega) (by omega) (y := zI 0) (by decide +kernel) ?_
      refine hv_weq (ws' := [(m9, .inr (7, [.int (zI (0)), .ref xt, .int (zI ((n : Int))), .ref nw, .ref tr, .ref di, .int (zI (0)), .ref ke, .ref ik, .ref wt, .int (zI (u6.2.2.2.1)), .int (zI (u6.1)), .int (zI (u6.2.2.1))])), (xt, .inl (dA 0, 120, .inl (fun i => zI (tx i)))), (nw, .inl (dA 0, 12, .inl (fun i => zI ((ld_it n tx (n - 1)).1 i)))), (tr, .inl (dA 0, 12, .inl (fun i => zI (u6.2.1 i)))), (ik, .inl (dA 3, 2, .inl (upd (fun i => zI (zB (sal i))) 0 (zI 0)))), (wt, .inl (dA 0, 4096, .inl (fun i => zI (u6.2.2.2.2 i))))]) (rfl) ?_
      refine hv_aload_n C dX9_load_51 0 rfl ?_
      refine hv_get C dX9_load_52 (fun w h => hw_c (tw_u_9 w h)) 0 (ci := 7) rfl rfl 8 (by decide) (hw_c tw_f_RX9_25) rfl ?_
      refine hv_iconst C dX9_load_55 (v := zI (1)) rfl ?_
      refine hv_iconst C dX9_load_56 (v := zI (0)) rfl ?_
      refine hv_zast C dX9_load_57 4 rfl (1) (rfl) (by omega) (by omega) (y := zI 0) (by decide +kernel) ?_
      refine hv_weq (ws' := [(m9, .inr (7, [.int (zI (0)), .ref xt, .int (zI ((n : Int))), .ref nw, .ref tr, .ref di, .int (zI (0)), .ref ke, .ref ik, .ref wt, .int (zI (u6.2.2.2.1)), .int (zI (u6.1)), .int (zI (u6.2.2.1))])), (xt, .inl (dA 0, 120, .inl (fun i => zI (tx i)))), (nw, .inl (dA 0, 12, .inl (fun i => zI ((ld_it n tx (n - 1)).1 i)))), (tr, .inl (dA 0, 12, .inl (fun i => zI (u6.2.1 i)))), (ik, .inl (dA 3, 2, .inl (fun i => zI (zB (ld_s sal i))))), (wt, .inl (dA 0, 4096, .inl (fun i => zI (u6.2.2.2.2 i))))]) (by rw [← mz_ik2]; rfl) ?_
      refine hv_aload_n C dX9_load_58 0 rfl ?_
      refine hv_get C dX9_load_59 (fun w h => hw_c (tw_u_9 w h)) 0 (ci := 7) rfl rfl 12 (by decide) (hw_c tw_f_RX9_129) rfl ?_
      exact hv_iret C M dX9_load_62 rfl rfl u6 hu6.1 (by rw [e9]; show some (Value.int (zI (ld_it n tx (n - 1)).2)) = _; rw [← hu6.2 hse]) [] (List.Perm.of_eq (by rw [e8, e9]; rfl)) (Nat.le_refl _) (Nat.le_refl _)
    · exact absurd hc21 (by omega)

