set_option maxHeartbeats 4000000 in
set_option maxRecDepth 100000 in
theorem k_X0_number (l : Launch) (D : va_G) (dA : Nat → ClassId) (a b k : Int) : hv_Ct l yX0_number (hw_W yX0_number cX0_number 3 (some .int)) 0 D dA [.int (zI (a)), .int (zI (b)), .int (zI (k))] ([]) 0 0 (S := Unit) (fun _ => some (.int (zI (100 * a + 10 * b + k)))) (fun _ => True) (fun _ => []) := by
  refine hv_of (cc := cX0_number) (maxL := 3) (ret := (some .int)) (own := RX0) rfl (by decide) rfl (Nat.le_of_ble_eq_true rfl) ?_
  intro p e s m args below meth c C M
  refine hv_lveq (lv' := [(0, .int (zI (a))), (1, .int (zI (b))), (2, .int (zI (k)))]) rfl ?_
  refine hv_bipush C dX0_number_0 (v := zI (100)) (by decide +kernel) ?_
  refine hv_iload_n C dX0_number_2 0 rfl ?_
  refine hv_imul C dX0_number_3 (zI_mul _ _) ?_
  refine hv_bipush C dX0_number_4 (v := zI (10)) (by decide +kernel) ?_
  refine hv_iload_n C dX0_number_6 1 rfl ?_
  refine hv_imul C dX0_number_7 (zI_mul _ _) ?_
  refine hv_iadd C dX0_number_8 (zI_add _ _) ?_
  refine hv_iload_n C dX0_number_9 2 rfl ?_
  refine hv_iadd C dX0_number_10 (zI_add _ _) ?_
  exact hv_iret C M dX0_number_11 rfl rfl () trivial (hv_rv (by omega)) [] (List.Perm.of_eq (by first | rfl | exact (List.append_nil _).symm)) (Nat.le_refl _) (Nat.le_refl _)

set_option maxHeartbeats 4000000 in
set_option maxRecDepth 100000 in
theorem k_X0_from (l : Launch) (D : va_G) (dA : Nat → ClassId) {z : Int} (c9 : Nat) (e9 : z = (c9 : Int)) (hc : c9 < 100000) : hv_Ct l yX0_from (hw_W yX0_from cX0_from 1 (some .int)) 0 D dA [.int (zI (z))] ([]) 0 0 (S := Unit) (fun _ => some (.int (zI ((c9 / 100 : Nat) : Int)))) (fun _ => True) (fun _ => []) := by
  subst e9
  refine hv_of (cc := cX0_from) (maxL := 1) (ret := (some .int)) (own := RX0) rfl (by decide) rfl (Nat.le_of_ble_eq_true rfl) ?_
  intro p e s m args below meth c C M
  refine hv_lveq (lv' := [(0, .int (zI ((c9 : Int))))]) rfl ?_
  refine hv_iload_n C dX0_from_0 0 rfl ?_
  refine hv_bipush C dX0_from_1 (v := zI (100)) (by decide +kernel) ?_
  refine hv_idiv C dX0_from_3 ((zI_ne0 (by omega)).mpr (by omega)) (zI_div (by omega)) ?_
  exact hv_iret C M dX0_from_4 rfl rfl () trivial (hv_rv (by omega)) [] (List.Perm.of_eq (by first | rfl | exact (List.append_nil _).symm)) (Nat.le_refl _) (Nat.le_refl _)

set_option maxHeartbeats 4000000 in
set_option maxRecDepth 100000 in
theorem k_X0_to (l : Launch) (D : va_G) (dA : Nat → ClassId) {z : Int} (c9 : Nat) (e9 : z = (c9 : Int)) (hc : c9 < 100000) : hv_Ct l yX0_to (hw_W yX0_to cX0_to 1 (some .int)) 0 D dA [.int (zI (z))] ([]) 0 0 (S := Unit) (fun _ => some (.int (zI ((c9 / 10 % 10 : Nat) : Int)))) (fun _ => True) (fun _ => []) := by
  subst e9
  refine hv_of (cc := cX0_to) (maxL := 1) (ret := (some .int)) (own := RX0) rfl (by decide) rfl (Nat.le_of_ble_eq_true rfl) ?_
  intro p e s m args below meth c C M
  refine hv_lveq (lv' := [(0, .int (zI ((c9 : Int))))]) rfl ?_
  refine hv_iload_n C dX0_to_0 0 rfl ?_
  refine hv_bipush C dX0_to_1 (v := zI (10)) (by decide +kernel) ?_
  refine hv_idiv C dX0_to_3 ((zI_ne0 (by omega)).mpr (by omega)) (zI_div (by omega)) ?_
  refine hv_bipush C dX0_to_4 (v := zI (10)) (by decide +kernel) ?_
  refine hv_irem C dX0_to_6 ((zI_ne0 (by omega)).mpr (by omega)) (zI_rem (by omega)) ?_
  exact hv_iret C M dX0_to_7 rfl rfl () trivial (hv_rv (by omega)) [] (List.Perm.of_eq (by first | rfl | exact (List.append_nil _).symm)) (Nat.le_refl _) (Nat.le_refl _)

set_option maxHeartbeats 4000000 in
set_option maxRecDepth 100000 in
theorem k_X0_lost (l : Launch) (D : va_G) (dA : Nat → ClassId) {z : Int} (c9 : Nat) (e9 : z = (c9 : Int)) (hc : c9 < 100000) : hv_Ct l yX0_lost (hw_W yX0_lost cX0_lost 1 (some .int)) 0 D dA [.int (zI (z))] ([]) 0 0 (S := Unit) (fun _ => some (.int (zI ((c9 % 10 : Nat) : Int)))) (fun _ => True) (fun _ => []) := by
  subst e9
  refine hv_of (cc := cX0_lost) (maxL := 1) (ret := (some .int)) (own := RX0) rfl (by decide) rfl (Nat.le_of_ble_eq_true rfl) ?_
  intro p e s m args below meth c C M
  refine hv_lveq (lv' := [(0, .int (zI ((c9 : Int))))]) rfl ?_
  refine hv_iload_n C dX0_lost_0 0 rfl ?_
  refine hv_bipush C dX0_lost_1 (v := zI (10)) (by decide +kernel) ?_
  refine hv_irem C dX0_lost_3 ((zI_ne0 (by omega)).mpr (by omega)) (zI_rem (by omega)) ?_
  exact hv_iret C M dX0_lost_4 rfl rfl () trivial (hv_rv (by omega)) [] (List.Perm.of_eq (by first | rfl | exact (List.append_nil _).symm)) (Nat.le_refl _) (Nat.le_refl _)

set_option maxHeartbeats 4000000 in
set_option maxRecDepth 100000 in
theorem k_J6_bitCount_0f7a4_x (l : Launch) (D : va_G) (dA : Nat → ClassId) (x : Int32) : hv_Ct l yJ6_bitCount_0f7a4 (hw_W yJ6_bitCount_0f7a4 cJ6_bitCount_0f7a4 1 (some .int)) 0 D dA [.int (x)] ([]) 0 0 (S := Unit) (fun _ => some (.int (sp_bcx x))) (fun _ => True) (fun _ => []) := by
  refine hv_of (cc := cJ6_bitCount_0f7a4) (maxL := 1) (ret := (some .int)) (own := RJ6) rfl (by decide) rfl (Nat.le_of_ble_eq_true rfl) ?_
  intro p e s m args below meth c C M
  refine hv_lveq (lv' := [(0, .int (x))]) rfl ?_
  refine hv_iload_n C dJ6_bitCount_0f7a4_0 0 rfl ?_
  refine hv_iload_n C dJ6_bitCount_0f7a4_1 0 rfl ?_
  refine hv_iconst C dJ6_bitCount_0f7a4_2 (v := zI (1)) rfl ?_
  refine hv_iushr C dJ6_bitCount_0f7a4_3 rfl ?_
  refine hv_ldcw C dJ6_bitCount_0f7a4_4 (hw_c tw_o_RJ6_265) ?_
  refine hv_iand C dJ6_bitCount_0f7a4_7 rfl ?_
  refine hv_isub C dJ6_bitCount_0f7a4_8 rfl ?_
  refine hv_istore_n C dJ6_bitCount_0f7a4_9 (lw := [(0, .int (sp_b1 x))]) (by decide) rfl ?_
  refine hv_iload_n C dJ6_bitCount_0f7a4_10 0 rfl ?_
  refine hv_ldcw C dJ6_bitCount_0f7a4_11 (hw_c tw_o_RJ6_266) ?_
  refine hv_iand C dJ6_bitCount_0f7a4_14 rfl ?_
  refine hv_iload_n C dJ6_bitCount_0f7a4_15 0 rfl ?_
  refine hv_iconst C dJ6_bitCount_0f7a4_16 (v := zI (2)) rfl ?_
  refine hv_iushr C dJ6_bitCount_0f7a4_17 rfl ?_
  refine hv_ldcw C dJ6_bitCount_0f7a4_18 (hw_c tw_o_RJ6_266) ?_
  refine hv_iand C dJ6_bitCount_0f7a4_21 rfl ?_
  refine hv_iadd C dJ6_bitCount_0f7a4_22 rfl ?_
  refine hv_istore_n C dJ6_bitCount_0f7a4_23 (lw := [(0, .int (sp_b2 (sp_b1 x)))]) (by decide) rfl ?_
  refine hv_iload_n C dJ6_bitCount_0f7a4_24 0 rfl ?_
  refine hv_iload_n C dJ6_bitCount_0f7a4_25 0 rfl ?_
  refine hv_iconst C dJ6_bitCount_0f7a4_26 (v := zI (4)) rfl ?_
  refine hv_iushr C dJ6_bitCount_0f7a4_27 rfl ?_
  refine hv_iadd C dJ6_bitCount_0f7a4_28 rfl ?_
  refine hv_ldcw C dJ6_bitCount_0f7a4_29 (hw_c tw_o_RJ6_267) ?_
  refine hv_iand C dJ6_bitCount_0f7a4_32 rfl ?_
  refine hv_istore_n C dJ6_bitCount_0f7a4_33 (lw := [(0, .int (sp_b3 (sp_b2 (sp_b1 x))))]) (by decide) rfl ?_
  refine hv_iload_n C dJ6_bitCount_0f7a4_34 0 rfl ?_
  refine hv_iload_n C dJ6_bitCount_0f7a4_35 0 rfl ?_
  refine hv_bipush C dJ6_bitCount_0f7a4_36 (v := zI (8)) (by decide +kernel) ?_
  refine hv_iushr C dJ6_bitCount_0f7a4_38 rfl ?_
  refine hv_iadd C dJ6_bitCount_0f7a4_39 rfl ?_
  refine hv_istore_n C dJ6_bitCount_0f7a4_40 (lw := [(0, .int (sp_b4 (sp_b3 (sp_b2 (sp_b1 x)))))]) (by decide) rfl ?_
  refine hv_iload_n C dJ6_bitCount_0f7a4_41 0 rfl ?_
  refine hv_iload_n C dJ6_bitCount_0f7a4_42 0 rfl ?_
  refine hv_bipush C dJ6_bitCount_0f7a4_43 (v := zI (16)) (by decide +kernel) ?_
  refine hv_iushr C dJ6_bitCount_0f7a4_45 rfl ?_
  refine hv_iadd C dJ6_bitCount_0f7a4_46 rfl ?_
  refine hv_istore_n C dJ6_bitCount_0f7a4_47 (lw := [(0, .int (sp_b5 (sp_b4 (sp_b3 (sp_b2 (sp_b1 x))))))]) (by decide) rfl ?_
  refine hv_iload_n C dJ6_bitCount_0f7a4_48 0 rfl ?_
  refine hv_bipush C dJ6_bitCount_0f7a4_49 (v := zI (63)) (by decide +kernel) ?_
  refine hv_iand C dJ6_bitCount_0f7a4_51 rfl ?_
  exact hv_iret C M dJ6_bitCount_0f7a4_52 rfl rfl () trivial rfl [] (List.Perm.of_eq (by first | rfl | exact (List.append_nil _).symm)) (Nat.le_refl _) (Nat.le_refl _)

theorem k_bc (l : Launch) (D : va_G) (dA : Nat → ClassId) {x : Int32} (n : Nat) (hx : x = zI (n : Int)) (hn : n < 4096) : hv_Ct l yJ6_bitCount_0f7a4 (hw_W yJ6_bitCount_0f7a4 cJ6_bitCount_0f7a4 1 (some .int)) 0 D dA [.int x] [] 0 0 (S := Unit) (fun _ => some (.int (zI (sp_pop n : Int)))) (fun _ => True) (fun _ => []) := by
  have h := k_J6_bitCount_0f7a4_x l D dA x
  rw [hx, sp_bc n hn] at h
  rw [hx]
  exact h

set_option maxHeartbeats 4000000 in
set_option maxRecDepth 100000 in
theorem k_X3_leavesOf (l : Launch) (D : va_G) (dA : Nat → ClassId) {zh zi : Int} (h i : Nat) (eh : zh = (h : Int)) (ei : zi = (i : Int)) (hh : h < 2 ^ 31) (hi : i < 8) : hv_Ct l yX3_leavesOf (hw_W yX3_leavesOf cX3_leavesOf 2 (some .int)) 0 D dA [.int (zI (zh)), .int (zI (zi))] ([]) 0 0 (S := Unit) (fun _ => some (.int (zI (sp_dg h i : Int)))) (fun _ => True) (fun _ => []) := by
  subst eh
  subst ei
  refine hv_of (cc := cX3_leavesOf) (maxL := 2) (ret := (some .int)) (own := RX3) rfl (by decide) rfl (Nat.le_of_ble_eq_true rfl) ?_
  intro p e s m args below meth c C M
  refine hv_lveq (lv' := [(0, .int (zI ((h : Int)))), (1, .int (zI ((i : Int))))]) rfl ?_
  refine hv_iload_n C dX3_leavesOf_0 0 rfl ?_
  refine hv_iconst C dX3_leavesOf_1 (v := zI (2)) rfl ?_
  refine hv_iload_n C dX3_leavesOf_2 1 rfl ?_
  refine hv_imul C dX3_leavesOf_3 (zI_mul _ _) ?_
  refine hv_ishr C dX3_leavesOf_4 rfl ?_
  refine hv_iconst C dX3_leavesOf_5 (v := zI (3)) rfl ?_
  refine hv_iand C dX3_leavesOf_6 rfl ?_
  refine hv_topi (y := zI ((sp_dg h i : Int))) (by exact sp_leaf hh hi) ?_
  exact hv_iret C M dX3_leavesOf_7 rfl rfl () trivial (hv_rv (by omega)) [] (List.Perm.of_eq (by first | rfl | exact (List.append_nil _).symm)) (Nat.le_refl _) (Nat.le_refl _)

set_option maxHeartbeats 4000000 in
set_option maxRecDepth 100000 in
theorem k_X3_isFull (l : Launch) (D : va_G) (dA : Nat → ClassId) {zh zi : Int} (h i : Nat) (eh : zh = (h : Int)) (ei : zi = (i : Int)) (hh : h < 2 ^ 31) (hi : i < 8) : hv_Ct l yX3_isFull (hw_W yX3_isFull cX3_isFull 2 (some .boolean)) 1 D dA [.int (zI (zh)), .int (zI (zi))] ([]) 0 0 (S := Unit) (fun _ => some (.int (zI (zB (decide (sp_dg h i = 3)))))) (fun _ => True) (fun _ => []) := by
  subst eh
  subst ei
  refine hv_of (cc := cX3_isFull) (maxL := 2) (ret := (some .boolean)) (own := RX3) rfl (by decide) rfl (Nat.le_of_ble_eq_true rfl) ?_
  intro p e s m args below meth c C M
  refine hv_lveq (lv' := [(0, .int (zI ((h : Int)))), (1, .int (zI ((i : Int))))]) rfl ?_
  refine hv_iload_n C dX3_isFull_0 0 rfl ?_
  refine hv_iload_n C dX3_isFull_1 1 rfl ?_
  refine hv_callS (As := [.int (zI ((h : Int))), .int (zI ((i : Int)))]) (rest := []) (wc := []) (wr := []) C (k_X3_leavesOf l D dA (h) (i) (by omega) (by omega) (by omega) (by omega)) (va_cwS 2 C.1.2.2.2.2 (hw_S tw_m_RX3_9 tw_t_X3_leavesOf tw_n_RX3 tw_k_X3_leavesOf) rfl rfl rfl (by decide +kernel) ⟨Nat.le_of_ble_eq_true rfl, Nat.le_of_ble_eq_true rfl⟩) (hv_pm [] rfl) rfl rfl (Nat.le_of_ble_eq_true rfl) dX3_isFull_2 ⟨Nat.le_of_ble_eq_true rfl, Nat.le_of_ble_eq_true rfl⟩ (fun _ _ => ?_)
  refine hv_eqst (st' := [.int (zI ((sp_dg (h) (i) : Int)))]) rfl ?_
  refine hv_weq (ws' := []) (rfl) ?_
  refine hv_iconst C dX3_isFull_5 (v := zI (3)) rfl ?_
  have hdl := sp_dg_lt h i
  refine hv_icmp_ne C dX3_isFull_6 (tgt := 13) (by decide) (zI_ne (by omega)) (fun hc6 => ?_) (fun hc6 => ?_)
  · refine hv_iconst C dX3_isFull_13 (v := zI (0)) rfl ?_
    exact hv_iret C M dX3_isFull_14 rfl zB_n2 () trivial (hv_rv (zB_F (by omega))) [] (List.Perm.of_eq (by first | rfl | exact (List.append_nil _).symm)) (Nat.le_refl _) (Nat.le_refl _)
  · refine hv_iconst C dX3_isFull_9 (v := zI (1)) rfl ?_
    refine hv_goto C dX3_isFull_10 (tgt := 14) (by decide) ?_
    exact hv_iret C M dX3_isFull_14 rfl zB_n1 () trivial (hv_rv (zB_T (by omega))) [] (List.Perm.of_eq (by first | rfl | exact (List.append_nil _).symm)) (Nat.le_refl _) (Nat.le_refl _)

set_option maxHeartbeats 4000000 in
set_option maxRecDepth 100000 in
theorem k_X3_hedges (l : Launch) (D : va_G) (dA : Nat → ClassId) {z : Int} (n : Nat) (e : z = (n : Int)) (hn : n < 8) : hv_Ct l yX3_hedges (hw_W yX3_hedges cX3_hedges 1 (some .int)) 0 D dA [.int (zI (z))] ([]) 0 0 (S := Unit) (fun _ => some (.int (zI ((4 ^ n : Nat) : Int)))) (fun _ => True) (fun _ => []) := by
  subst e
  refine hv_of (cc := cX3_hedges) (maxL := 1) (ret := (some .int)) (own := RX3) rfl (by decide) rfl (Nat.le_of_ble_eq_true rfl) ?_
  intro p e s m args below meth c C M
  refine hv_lveq (lv' := [(0, .int (zI ((n : Int))))]) rfl ?_
  refine hv_iconst C dX3_hedges_0 (v := zI (1)) rfl ?_
  refine hv_iconst C dX3_hedges_1 (v := zI (2)) rfl ?_
  refine hv_iload_n C dX3_hedges_2 0 rfl ?_
  refine hv_imul C dX3_hedges_3 (zI_mul _ _) ?_
  refine hv_ishl C dX3_hedges_4 rfl ?_
  refine hv_topi (y := zI (((4 ^ n : Nat) : Int))) (by exact sp_sh1 n hn) ?_
  exact hv_iret C M dX3_hedges_5 rfl rfl () trivial (hv_rv (by omega)) [] (List.Perm.of_eq (by first | rfl | exact (List.append_nil _).symm)) (Nat.le_refl _) (Nat.le_refl _)

set_option maxHeartbeats 4000000 in
set_option maxRecDepth 100000 in
theorem k_X3_watered (l : Launch) (D : va_G) (dA : Nat → ClassId) {zh zi : Int} (h i : Nat) (eh : zh = (h : Int)) (ei : zi = (i : Int)) (hi : i < 8) : hv_Ct l yX3_watered (hw_W yX3_watered cX3_watered 2 (some .int)) 0 D dA [.int (zI (zh)), .int (zI (zi))] ([]) 0 0 (S := Unit) (fun _ => some (.int (zI ((h + 4 ^ i : Nat) : Int)))) (fun _ => True) (fun _ => []) := by
  subst eh
  subst ei
  refine hv_of (cc := cX3_watered) (maxL := 2) (ret := (some .int)) (own := RX3) rfl (by decide) rfl (Nat.le_of_ble_eq_true rfl) ?_
  intro p e s m args below meth c C M
  refine hv_lveq (lv' := [(0, .int (zI ((h : Int)))), (1, .int (zI ((i : Int))))]) rfl ?_
  refine hv_iload_n C dX3_watered_0 0 rfl ?_
  refine hv_iconst C dX3_watered_1 (v := zI (1)) rfl ?_
  refine hv_iconst C dX3_watered_2 (v := zI (2)) rfl ?_
  refine hv_iload_n C dX3_watered_3 1 rfl ?_
  refine hv_imul C dX3_watered_4 (zI_mul _ _) ?_
  refine hv_ishl C dX3_watered_5 rfl ?_
  refine hv_topi (y := zI (((4 ^ i : Nat) : Int))) (by exact sp_sh1 i hi) ?_
  refine hv_iadd C dX3_watered_6 (z := zI (((h + 4 ^ i : Nat) : Int))) ((zI_add _ _).trans (zI_c (by omega))) ?_
  exact hv_iret C M dX3_watered_7 rfl rfl () trivial (hv_rv (by omega)) [] (List.Perm.of_eq (by first | rfl | exact (List.append_nil _).symm)) (Nat.le_refl _) (Nat.le_refl _)

set_option maxHeartbeats 4000000 in
set_option maxRecDepth 100000 in
theorem k_X3_leafy (l : Launch) (D : va_G) (dA : Nat → ClassId) {zh : Int} (h : Nat) (eh : zh = (h : Int)) (hh : h < 4096) : hv_Ct l yX3_leafy (hw_W yX3_leafy cX3_leafy 1 (some .int)) 0 D dA [.int (zI (zh))] ([]) 0 0 (S := Unit) (fun _ => some (.int (zI (sp_lf h : Int)))) (fun _ => True) (fun _ => []) := by
  subst eh
  refine hv_of (cc := cX3_leafy) (maxL := 1) (ret := (some .int)) (own := RX3) rfl (by decide) rfl (Nat.le_of_ble_eq_true rfl) ?_
  intro p e s m args below meth c C M
  refine hv_lveq (lv' := [(0, .int (zI ((h : Int))))]) rfl ?_
  refine hv_iload_n C dX3_leafy_0 0 rfl ?_
  refine hv_iload_n C dX3_leafy_1 0 rfl ?_
  refine hv_iconst C dX3_leafy_2 (v := zI (1)) rfl ?_
  refine hv_ishr C dX3_leafy_3 rfl ?_
  refine hv_ior C dX3_leafy_4 rfl ?_
  refine hv_sipush C dX3_leafy_5 (v := zI (1365)) (by decide +kernel) ?_
  refine hv_iand C dX3_leafy_8 rfl ?_
  refine hv_topi (y := zI ((sp_lf h : Int))) (by exact sp_lfx h hh) ?_
  exact hv_iret C M dX3_leafy_9 rfl rfl () trivial (hv_rv (by omega)) [] (List.Perm.of_eq (by first | rfl | exact (List.append_nil _).symm)) (Nat.le_refl _) (Nat.le_refl _)

set_option maxHeartbeats 4000000 in
set_option maxRecDepth 100000 in
theorem k_X3_bared (l : Launch) (D : va_G) (dA : Nat → ClassId) {zh zb : Int} (h b : Nat) (eh : zh = (h : Int)) (eb : zb = (b : Int)) (hh : h < 4096) (hb : b < 4096) : hv_Ct l yX3_bared (hw_W yX3_bared cX3_bared 2 (some .int)) 1 D dA [.int (zI (zh)), .int (zI (zb))] ([]) 0 0 (S := Unit) (fun _ => some (.int (zI ((sp_lc h : Int) - (sp_lc b : Int))))) (fun _ => True) (fun _ => []) := by
  subst eh
  subst eb
  refine hv_of (cc := cX3_bared) (maxL := 2) (ret := (some .int)) (own := RX3) rfl (by decide) rfl (Nat.le_of_ble_eq_true rfl) ?_
  intro p e s m args below meth c C M
  refine hv_lveq (lv' := [(0, .int (zI ((h : Int)))), (1, .int (zI ((b : Int))))]) rfl ?_
  refine hv_iload_n C dX3_bared_0 0 rfl ?_
  refine hv_callS (As := [.int (zI ((h : Int)))]) (rest := []) (wc := []) (wr := []) C (k_X3_leafy l D dA (h) (by omega) (by omega)) (va_cwS 1 C.1.2.2.2.2 (hw_S tw_m_RX3_44 tw_t_X3_leafy tw_n_RX3 tw_k_X3_leafy) rfl rfl rfl (by decide +kernel) ⟨Nat.le_of_ble_eq_true rfl, Nat.le_of_ble_eq_true rfl⟩) (hv_pm [] rfl) rfl rfl (Nat.le_of_ble_eq_true rfl) dX3_bared_1 ⟨Nat.le_of_ble_eq_true rfl, Nat.le_of_ble_eq_true rfl⟩ (fun _ _ => ?_)
  refine hv_eqst (st' := [.int (zI ((sp_lf (h) : Int)))]) rfl ?_
  refine hv_weq (ws' := []) (rfl) ?_
  refine hv_callS (As := [.int (zI ((sp_lf (h) : Int)))]) (rest := []) (wc := []) (wr := []) C (k_bc l D dA (sp_lf h) (rfl) (by exact sp_lf_lt h)) (va_cwS 1 C.1.2.2.2.2 (hw_S tw_m_RX3_15 tw_t_J6_bitCount_0f7a4 tw_n_RJ6 tw_k_J6_bitCount_0f7a4) rfl rfl rfl (by decide +kernel) ⟨Nat.le_of_ble_eq_true rfl, Nat.le_of_ble_eq_true rfl⟩) (hv_pm [] rfl) rfl rfl (Nat.le_of_ble_eq_true rfl) dX3_bared_4 ⟨Nat.le_of_ble_eq_true rfl, Nat.le_of_ble_eq_true rfl⟩ (fun _ _ => ?_)
  refine hv_eqst (st' := [.int (zI ((sp_pop (sp_lf h) : Int)))]) rfl ?_
  refine hv_weq (ws' := []) (rfl) ?_
  refine hv_iload_n C dX3_bared_7 1 rfl ?_
  refine hv_callS (As := [.int (zI ((b : Int)))]) (rest := [.int (zI ((sp_pop (sp_lf h) : Int)))]) (wc := []) (wr := []) C (k_X3_leafy l D dA (b) (by omega) (by omega)) (va_cwS 1 C.1.2.2.2.2 (hw_S tw_m_RX3_44 tw_t_X3_leafy tw_n_RX3 tw_k_X3_leafy) rfl rfl rfl (by decide +kernel) ⟨Nat.le_of_ble_eq_true rfl, Nat.le_of_ble_eq_true rfl⟩) (hv_pm [] rfl) rfl rfl (Nat.le_of_ble_eq_true rfl) dX3_bared_8 ⟨Nat.le_of_ble_eq_true rfl, Nat.le_of_ble_eq_true rfl⟩ (fun _ _ => ?_)
  refine hv_eqst (st' := [.int (zI ((sp_lf (b) : Int))), .int (zI ((sp_pop (sp_lf h) : Int)))]) rfl ?_
  refine hv_weq (ws' := []) (rfl) ?_
  refine hv_callS (As := [.int (zI ((sp_lf (b) : Int)))]) (rest := [.int (zI ((sp_pop (sp_lf h) : Int)))]) (wc := []) (wr := []) C (k_bc l D dA (sp_lf b) (rfl) (by exact sp_lf_lt b)) (va_cwS 1 C.1.2.2.2.2 (hw_S tw_m_RX3_15 tw_t_J6_bitCount_0f7a4 tw_n_RJ6 tw_k_J6_bitCount_0f7a4) rfl rfl rfl (by decide +kernel) ⟨Nat.le_of_ble_eq_true rfl, Nat.le_of_ble_eq_true rfl⟩) (hv_pm [] rfl) rfl rfl (Nat.le_of_ble_eq_true rfl) dX3_bared_11 ⟨Nat.le_of_ble_eq_true rfl, Nat.le_of_ble_eq_true rfl⟩ (fun _ _ => ?_)
  refine hv_eqst (st' := [.int (zI ((sp_pop (sp_lf b) : Int))), .int (zI ((sp_pop (sp_lf h) : Int)))]) rfl ?_
  refine hv_weq (ws' := []) (rfl) ?_
  refine hv_isub C dX3_bared_14 (zI_sub _ _) ?_
  exact hv_iret C M dX3_bared_15 rfl rfl () trivial rfl [] (List.Perm.of_eq (by first | rfl | exact (List.append_nil _).symm)) (Nat.le_refl _) (Nat.le_refl _)

set_option maxHeartbeats 4000000 in
set_option maxRecDepth 100000 in
theorem k_X3_allLeaves (l : Launch) (D : va_G) (dA : Nat → ClassId) {zh : Int} (h : Nat) (eh : zh = (h : Int)) (hh : h < 4096) : hv_Ct l yX3_allLeaves (hw_W yX3_allLeaves cX3_allLeaves 1 (some .int)) 1 D dA [.int (zI (zh))] ([]) 0 0 (S := Unit) (fun _ => some (.int (zI (sp_lv h : Int)))) (fun _ => True) (fun _ => []) := by
  subst eh
  refine hv_of (cc := cX3_allLeaves) (maxL := 1) (ret := (some .int)) (own := RX3) rfl (by decide) rfl (Nat.le_of_ble_eq_true rfl) ?_
  intro p e s m args below meth c C M
  refine hv_lveq (lv' := [(0, .int (zI ((h : Int))))]) rfl ?_
  refine hv_iload_n C dX3_allLeaves_0 0 rfl ?_
  refine hv_sipush C dX3_allLeaves_1 (v := zI (1365)) (by decide +kernel) ?_
  refine hv_iand C dX3_allLeaves_4 rfl ?_
  refine hv_topi (y := zI (((h &&& 1365 : Nat) : Int))) (by exact sp_lo h hh) ?_
  refine hv_callS (As := [.int (zI (((h &&& 1365 : Nat) : Int)))]) (rest := []) (wc := []) (wr := []) C (k_bc l D dA (h &&& 1365) (rfl) (by exact sp_lo_lt h)) (va_cwS 1 C.1.2.2.2.2 (hw_S tw_m_RX3_15 tw_t_J6_bitCount_0f7a4 tw_n_RJ6 tw_k_J6_bitCount_0f7a4) rfl rfl rfl (by decide +kernel) ⟨Nat.le_of_ble_eq_true rfl, Nat.le_of_ble_eq_true rfl⟩) (hv_pm [] rfl) rfl rfl (Nat.le_of_ble_eq_true rfl) dX3_allLeaves_5 ⟨Nat.le_of_ble_eq_true rfl, Nat.le_of_ble_eq_true rfl⟩ (fun _ _ => ?_)
  refine hv_eqst (st' := [.int (zI ((sp_pop (h &&& 1365) : Int)))]) rfl ?_
  refine hv_weq (ws' := []) (rfl) ?_
  refine hv_iconst C dX3_allLeaves_8 (v := zI (2)) rfl ?_
  refine hv_iload_n C dX3_allLeaves_9 0 rfl ?_
  refine hv_iconst C dX3_allLeaves_10 (v := zI (1)) rfl ?_
  refine hv_ishr C dX3_allLeaves_11 rfl ?_
  refine hv_sipush C dX3_allLeaves_12 (v := zI (1365)) (by decide +kernel) ?_
  refine hv_iand C dX3_allLeaves_15 rfl ?_
  refine hv_topi (y := zI (((h / 2 &&& 1365 : Nat) : Int))) (by exact sp_hi h hh) ?_
  refine hv_callS (As := [.int (zI (((h / 2 &&& 1365 : Nat) : Int)))]) (rest := [.int (zI (2)), .int (zI ((sp_pop (h &&& 1365) : Int)))]) (wc := []) (wr := []) C (k_bc l D dA (h / 2 &&& 1365) (rfl) (by exact sp_lo_lt (h / 2))) (va_cwS 1 C.1.2.2.2.2 (hw_S tw_m_RX3_15 tw_t_J6_bitCount_0f7a4 tw_n_RJ6 tw_k_J6_bitCount_0f7a4) rfl rfl rfl (by decide +kernel) ⟨Nat.le_of_ble_eq_true rfl, Nat.le_of_ble_eq_true rfl⟩) (hv_pm [] rfl) rfl rfl (Nat.le_of_ble_eq_true rfl) dX3_allLeaves_16 ⟨Nat.le_of_ble_eq_true rfl, Nat.le_of_ble_eq_true rfl⟩ (fun _ _ => ?_)
  refine hv_eqst (st' := [.int (zI ((sp_pop (h / 2 &&& 1365) : Int))), .int (zI (2)), .int (zI ((sp_pop (h &&& 1365) : Int)))]) rfl ?_
  refine hv_weq (ws' := []) (rfl) ?_
  refine hv_imul C dX3_allLeaves_19 (zI_mul _ _) ?_
  refine hv_iadd C dX3_allLeaves_20 (zI_add _ _) ?_
  exact hv_iret C M dX3_allLeaves_21 rfl rfl () trivial (hv_rv (by have := sp_lvx h hh; omega)) [] (List.Perm.of_eq (by first | rfl | exact (List.append_nil _).symm)) (Nat.le_refl _) (Nat.le_refl _)

set_option maxHeartbeats 4000000 in
set_option maxRecDepth 100000 in
theorem k_X3_clipped (l : Launch) (D : va_G) (dA : Nat → ClassId) {zh zc : Int} (h c9 : Nat) (eh : zh = (h : Int)) (ec : zc = (c9 : Int)) (hh : h < 4096) (hc : c9 / 100 ≤ c9 / 10 % 10 ∧ c9 / 10 % 10 < 6 ∧ c9 % 10 < 4) : hv_Ct l yX3_clipped (hw_W yX3_clipped cX3_clipped 6 (some .int)) 1 D dA [.int (zI (zh)), .int (zI (zc))] ([]) 0 0 (S := Unit) (fun _ => some (.int (zI (sp_cc h c9 : Int)))) (fun _ => True) (fun _ => []) := by
  subst eh
  subst ec
  refine hv_of (cc := cX3_clipped) (maxL := 6) (ret := (some .int)) (own := RX3) rfl (by decide) rfl (Nat.le_of_ble_eq_true rfl) ?_
  intro p e s m args below meth c C M
  refine hv_lveq (lv' := [(0, .int (zI ((h : Int)))), (1, .int (zI ((c9 : Int))))]) rfl ?_
  refine hv_iload_n C dX3_clipped_0 0 rfl ?_
  refine hv_istore_n C dX3_clipped_1 (lw := [(2, .int (zI ((h : Int)))), (0, .int (zI ((h : Int)))), (1, .int (zI ((c9 : Int))))]) (by decide) rfl ?_
  refine hv_iload_n C dX3_clipped_2 2 rfl ?_
  refine hv_callS (As := [.int (zI ((c9 : Int)))]) (rest := []) (wc := []) (wr := []) C (k_X0_to l D dA c9 (by omega) (by omega)) (va_cwS 1 C.1.2.2.2.2 (hw_S tw_m_RX3_30 tw_t_X0_to tw_n_RX0 tw_k_X0_to) rfl rfl rfl (by decide +kernel) ⟨Nat.le_of_ble_eq_true rfl, Nat.le_of_ble_eq_true rfl⟩) (hv_pm [] rfl) rfl rfl (Nat.le_of_ble_eq_true rfl) dX3_clipped_3 ⟨Nat.le_of_ble_eq_true rfl, Nat.le_of_ble_eq_true rfl⟩ (fun _ _ => ?_)
  refine hv_eqst (st' := [.int (zI (((c9 / 10 % 10 : Nat) : Int)))]) rfl ?_
  refine hv_weq (ws' := []) (rfl) ?_
  refine hv_istore_n C dX3_clipped_6 (lw := [(3, .int (zI (((c9 / 10 % 10 : Nat) : Int)))), (2, .int (zI ((h : Int)))), (0, .int (zI ((h : Int)))), (1, .int (zI ((c9 : Int))))]) (by decide) rfl ?_
  refine hv_iload_n C dX3_clipped_7 3 rfl ?_
  refine hv_callS (As := [.int (zI ((c9 : Int)))]) (rest := []) (wc := []) (wr := []) C (k_X0_lost l D dA c9 (by omega) (by omega)) (va_cwS 1 C.1.2.2.2.2 (hw_S tw_m_RX3_33 tw_t_X0_lost tw_n_RX0 tw_k_X0_lost) rfl rfl rfl (by decide +kernel) ⟨Nat.le_of_ble_eq_true rfl, Nat.le_of_ble_eq_true rfl⟩) (hv_pm [] rfl) rfl rfl (Nat.le_of_ble_eq_true rfl) dX3_clipped_8 ⟨Nat.le_of_ble_eq_true rfl, Nat.le_of_ble_eq_true rfl⟩ (fun _ _ => ?_)
  refine hv_eqst (st' := [.int (zI (((c9 % 10 : Nat) : Int)))]) rfl ?_
  refine hv_weq (ws' := []) (rfl) ?_
  refine hv_istore C dX3_clipped_11 (lw := [(4, .int (zI (((c9 % 10 : Nat) : Int)))), (3, .int (zI (((c9 / 10 % 10 : Nat) : Int)))), (2, .int (zI ((h : Int)))), (0, .int (zI ((h : Int)))), (1, .int (zI ((c9 : Int))))]) (by decide) rfl ?_
  refine hv_iload_n C dX3_clipped_13 4 rfl ?_
  refine hv_callS (As := [.int (zI ((c9 : Int)))]) (rest := []) (wc := []) (wr := []) C (k_X0_from l D dA c9 (by omega) (by omega)) (va_cwS 1 C.1.2.2.2.2 (hw_S tw_m_RX3_36 tw_t_X0_from tw_n_RX0 tw_k_X0_from) rfl rfl rfl (by decide +kernel) ⟨Nat.le_of_ble_eq_true rfl, Nat.le_of_ble_eq_true rfl⟩) (hv_pm [] rfl) rfl rfl (Nat.le_of_ble_eq_true rfl) dX3_clipped_14 ⟨Nat.le_of_ble_eq_true rfl, Nat.le_of_ble_eq_true rfl⟩ (fun _ _ => ?_)
  refine hv_eqst (st' := [.int (zI (((c9 / 100 : Nat) : Int)))]) rfl ?_
  refine hv_weq (ws' := []) (rfl) ?_
  refine hv_istore C dX3_clipped_17 (lw := [(5, .int (zI (((c9 / 100 : Nat) : Int)))), (4, .int (zI (((c9 % 10 : Nat) : Int)))), (3, .int (zI (((c9 / 10 % 10 : Nat) : Int)))), (2, .int (zI ((h : Int)))), (0, .int (zI ((h : Int)))), (1, .int (zI ((c9 : Int))))]) (by decide) rfl ?_
  refine hv_loop (σ := Nat) (fun n x => x + n = c9 / 10 % 10 + 1 - c9 / 100) (fun x => []) (fun x => [(5, .int (zI (((c9 / 100 + x : Nat) : Int)))), (4, .int (zI (((c9 % 10 : Nat) : Int)))), (3, .int (zI (((c9 / 10 % 10 : Nat) : Int)))), (2, .int (zI ((sp_cut h (c9 % 10) (c9 / 100) x : Int)))), (0, .int (zI ((h : Int)))), (1, .int (zI ((c9 : Int))))]) (fun x => []) (fun _ => 0) (fun _ => 0) (c9 / 10 % 10 + 1 - c9 / 100) (0) (Nat.zero_add _) (⟨rfl, rfl, rfl, rfl, rfl⟩) (fun n x hI ih => ?_)
  refine hv_iload C dX3_clipped_19 0 rfl ?_
  refine hv_iload_n C dX3_clipped_21 2 rfl ?_
  refine hv_icmp_gt C dX3_clipped_22 (tgt := 50) (by decide) (zI_lt (by omega)) (fun hc22 => ?_) (fun hc22 => ?_)
  · have hn0 : x = c9 / 10 % 10 + 1 - c9 / 100 := by omega
    subst hn0
    refine hv_iload_n C dX3_clipped_50 3 rfl ?_
    exact hv_iret C M dX3_clipped_51 rfl rfl () trivial rfl [] (List.Perm.of_eq (by first | rfl | exact (List.append_nil _).symm)) (Nat.le_refl _) (Nat.le_refl _)
  · have hdl := sp_dg_lt h (c9 / 100 + x)
    refine hv_iload_n C dX3_clipped_25 3 rfl ?_
    refine hv_iload C dX3_clipped_26 1 rfl ?_
    refine hv_iload_n C dX3_clipped_28 4 rfl ?_
    refine hv_iload C dX3_clipped_29 0 rfl ?_
    refine hv_callS (As := [.int (zI ((h : Int))), .int (zI (((c9 / 100 + x : Nat) : Int)))]) (rest := [.int (zI (((c9 % 10 : Nat) : Int))), .int (zI ((sp_cut h (c9 % 10) (c9 / 100) x : Int)))]) (wc := []) (wr := []) C (k_X3_leavesOf l D dA (h) (c9 / 100 + x) (by omega) (by omega) (by omega) (by omega)) (va_cwS 2 C.1.2.2.2.2 (hw_S tw_m_RX3_9 tw_t_X3_leavesOf tw_n_RX3 tw_k_X3_leavesOf) rfl rfl rfl (by decide +kernel) ⟨Nat.le_of_ble_eq_true rfl, Nat.le_of_ble_eq_true rfl⟩) (hv_pm [] rfl) rfl rfl (Nat.le_of_ble_eq_true rfl) dX3_clipped_31 ⟨Nat.le_of_ble_eq_true rfl, Nat.le_of_ble_eq_true rfl⟩ (fun _ _ => ?_)
    refine hv_eqst (st' := [.int (zI ((sp_dg (h) (c9 / 100 + x) : Int))), .int (zI (((c9 % 10 : Nat) : Int))), .int (zI ((sp_cut h (c9 % 10) (c9 / 100) x : Int)))]) rfl ?_
    refine hv_weq (ws' := []) (rfl) ?_
    refine hv_mmin C dX3_clipped_34 (hw_c tw_m_RX3_39) (hw_c tw_t_Lib_Math_min_name) (hw_c tw_n_java_lang_Math) (hw_c tw_k_Lib_Math_min_name) (Nat.le_of_ble_eq_true rfl) (Nat.le_of_ble_eq_true rfl) (by exact Nat.le_of_ble_eq_true rfl) (by exact Nat.le_of_ble_eq_true rfl) (z := zI (((min (c9 % 10) (sp_dg h (c9 / 100 + x)) : Nat) : Int))) (by exact zI_minN (by omega) (by omega)) ?_
    refine hv_iconst C dX3_clipped_37 (v := zI (2)) rfl ?_
    refine hv_iload C dX3_clipped_38 0 rfl ?_
    refine hv_imul C dX3_clipped_40 (zI_mul _ _) ?_
    refine hv_ishl C dX3_clipped_41 rfl ?_
    refine hv_topi (y := zI (((min (c9 % 10) (sp_dg h (c9 / 100 + x)) * 4 ^ (c9 / 100 + x) : Nat) : Int))) (by exact sp_shl _ (by omega) _ (by omega)) ?_
    refine hv_isub C dX3_clipped_42 (z := zI ((sp_cut h (c9 % 10) (c9 / 100) (x + 1) : Int))) ((zI_sub _ _).trans (zI_c (by exact (sp_cut_succ h _ _ x).symm))) ?_
    refine hv_istore_n C dX3_clipped_43 (lw := [(2, .int (zI ((sp_cut h (c9 % 10) (c9 / 100) (x + 1) : Int)))), (5, .int (zI (((c9 / 100 + x : Nat) : Int)))), (4, .int (zI (((c9 % 10 : Nat) : Int)))), (3, .int (zI (((c9 / 10 % 10 : Nat) : Int)))), (0, .int (zI ((h : Int)))), (1, .int (zI ((c9 : Int))))]) (by decide) rfl ?_
    refine hv_iinc C dX3_clipped_44 1 rfl (v := zI (((c9 / 100 + (x + 1) : Nat) : Int))) ((zI_add _ _).trans (zI_c (by omega))) (by decide) (lw := [(5, .int (zI (((c9 / 100 + (x + 1) : Nat) : Int)))), (2, .int (zI ((sp_cut h (c9 % 10) (c9 / 100) (x + 1) : Int)))), (4, .int (zI (((c9 % 10 : Nat) : Int)))), (3, .int (zI (((c9 / 10 % 10 : Nat) : Int)))), (0, .int (zI ((h : Int)))), (1, .int (zI ((c9 : Int))))]) rfl ?_
    refine hv_goto C dX3_clipped_47 (tgt := 19) (by decide) ?_
    refine hv_lsub [0, 2, 3, 1, 4, 5] (lv' := [(5, .int (zI (((c9 / 100 + (x + 1) : Nat) : Int)))), (4, .int (zI (((c9 % 10 : Nat) : Int)))), (3, .int (zI (((c9 / 10 % 10 : Nat) : Int)))), (2, .int (zI ((sp_cut h (c9 % 10) (c9 / 100) (x + 1) : Int)))), (0, .int (zI ((h : Int)))), (1, .int (zI ((c9 : Int))))]) rfl ?_
    exact ih (n - 1) (x + 1) (by omega) (by omega)

set_option maxHeartbeats 4000000 in
set_option maxRecDepth 100000 in
theorem k_X3_hasLeaves (l : Launch) (D : va_G) (dA : Nat → ClassId) {zh za zb : Int} (h a b : Nat) (eh : zh = (h : Int)) (ea : za = (a : Int)) (eb : zb = (b : Int)) (hh : h < 4096) (hab : a ≤ b) (hb : b < 6) : hv_Ct l yX3_hasLeaves (hw_W yX3_hasLeaves cX3_hasLeaves 3 (some .boolean)) 2 D dA [.int (zI (zh)), .int (zI (za)), .int (zI (zb))] ([]) 0 0 (S := Unit) (fun _ => some (.int (zI (zB (decide (¬ sp_cc h (100 * a + 10 * b + 3) = h)))))) (fun _ => True) (fun _ => []) := by
  subst eh
  subst ea
  subst eb
  refine hv_of (cc := cX3_hasLeaves) (maxL := 3) (ret := (some .boolean)) (own := RX3) rfl (by decide) rfl (Nat.le_of_ble_eq_true rfl) ?_
  intro p e s m args below meth c C M
  refine hv_lveq (lv' := [(0, .int (zI ((h : Int)))), (1, .int (zI ((a : Int)))), (2, .int (zI ((b : Int))))]) rfl ?_
  refine hv_iload_n C dX3_hasLeaves_0 0 rfl ?_
  refine hv_iload_n C dX3_hasLeaves_1 1 rfl ?_
  refine hv_iload_n C dX3_hasLeaves_2 2 rfl ?_
  refine hv_iconst C dX3_hasLeaves_3 (v := zI (3)) rfl ?_
  refine hv_callS (As := [.int (zI ((a : Int))), .int (zI ((b : Int))), .int (zI (3))]) (rest := [.int (zI ((h : Int)))]) (wc := []) (wr := []) C (k_X0_number l D dA ((a : Int)) ((b : Int)) (3)) (va_cwS 3 C.1.2.2.2.2 (hw_S tw_m_RX3_21 tw_t_X0_number tw_n_RX0 tw_k_X0_number) rfl rfl rfl (by decide +kernel) ⟨Nat.le_of_ble_eq_true rfl, Nat.le_of_ble_eq_true rfl⟩) (hv_pm [] rfl) rfl rfl (Nat.le_of_ble_eq_true rfl) dX3_hasLeaves_4 ⟨Nat.le_of_ble_eq_true rfl, Nat.le_of_ble_eq_true rfl⟩ (fun _ _ => ?_)
  refine hv_eqst (st' := [.int (zI (100 * ((a : Int)) + 10 * ((b : Int)) + (3))), .int (zI ((h : Int)))]) rfl ?_
  refine hv_weq (ws' := []) (rfl) ?_
  refine hv_callS (As := [.int (zI ((h : Int))), .int (zI (100 * ((a : Int)) + 10 * ((b : Int)) + (3)))]) (rest := []) (wc := []) (wr := []) C (k_X3_clipped l D dA (h) (100 * a + 10 * b + 3) (by omega) (by omega) (by omega) (by omega)) (va_cwS 2 C.1.2.2.2.2 (hw_S tw_m_RX3_27 tw_t_X3_clipped tw_n_RX3 tw_k_X3_clipped) rfl rfl rfl (by decide +kernel) ⟨Nat.le_of_ble_eq_true rfl, Nat.le_of_ble_eq_true rfl⟩) (hv_pm [] rfl) rfl rfl (Nat.le_of_ble_eq_true rfl) dX3_hasLeaves_7 ⟨Nat.le_of_ble_eq_true rfl, Nat.le_of_ble_eq_true rfl⟩ (fun _ _ => ?_)
  refine hv_eqst (st' := [.int (zI ((sp_cc (h) (100 * a + 10 * b + 3) : Int)))]) rfl ?_
  refine hv_weq (ws' := []) (rfl) ?_
  refine hv_iload_n C dX3_hasLeaves_10 0 rfl ?_
  have hle := sp_cc_le h (100 * a + 10 * b + 3)
  refine hv_icmp_eq C dX3_hasLeaves_11 (tgt := 18) (by decide) (zI_eq (by omega)) (fun hc11 => ?_) (fun hc11 => ?_)
  · refine hv_iconst C dX3_hasLeaves_18 (v := zI (0)) rfl ?_
    exact hv_iret C M dX3_hasLeaves_19 rfl zB_n2 () trivial (hv_rv (zB_F (by omega))) [] (List.Perm.of_eq (by first | rfl | exact (List.append_nil _).symm)) (Nat.le_refl _) (Nat.le_refl _)
  · refine hv_iconst C dX3_hasLeaves_14 (v := zI (1)) rfl ?_
    refine hv_goto C dX3_hasLeaves_15 (tgt := 19) (by decide) ?_
    exact hv_iret C M dX3_hasLeaves_19 rfl zB_n1 () trivial (hv_rv (zB_T (by omega))) [] (List.Perm.of_eq (by first | rfl | exact (List.append_nil _).symm)) (Nat.le_refl _) (Nat.le_refl _)

set_option maxHeartbeats 4000000 in
set_option maxRecDepth 100000 in
theorem k_X3_blown (l : Launch) (D : va_G) (dA : Nat → ClassId) {zh zs zw : Int} (S w h : Nat) (eh : zh = (h : Int)) (es : zs = (S : Int)) (ew : zw = (w : Int)) (hS : 2 ≤ S ∧ S ≤ 6) (hw : w < 3) (hh : h < 4 ^ S) (hx : h < 4096) : hv_Ct l yX3_blown (hw_W yX3_blown cX3_blown 5 (some .int)) 1 D dA [.int (zI (zh)), .int (zI (zs)), .int (zI (zw))] ([]) 0 0 (S := Unit) (fun _ => some (.int (zI (sp_bl S w h : Int)))) (fun _ => True) (fun _ => []) := by
  subst eh
  subst es
  subst ew
  refine hv_of (cc := cX3_blown) (maxL := 5) (ret := (some .int)) (own := RX3) rfl (by decide) rfl (Nat.le_of_ble_eq_true rfl) ?_
  intro p e s m args below meth c C M
  refine hv_lveq (lv' := [(0, .int (zI ((h : Int)))), (1, .int (zI ((S : Int)))), (2, .int (zI ((w : Int))))]) rfl ?_
  refine hv_iload_n C dX3_blown_0 2 rfl ?_
  refine hv_if_ne C dX3_blown_1 (tgt := 6) (by decide) (zI_ne0 (by omega)) (fun hc1 => ?_) (fun hc1 => ?_)
  · refine hv_iload_n C dX3_blown_6 0 rfl ?_
    refine hv_callS (As := [.int (zI ((h : Int)))]) (rest := []) (wc := []) (wr := []) C (k_X3_leafy l D dA (h) (by omega) (by omega)) (va_cwS 1 C.1.2.2.2.2 (hw_S tw_m_RX3_44 tw_t_X3_leafy tw_n_RX3 tw_k_X3_leafy) rfl rfl rfl (by decide +kernel) ⟨Nat.le_of_ble_eq_true rfl, Nat.le_of_ble_eq_true rfl⟩) (hv_pm [] rfl) rfl rfl (Nat.le_of_ble_eq_true rfl) dX3_blown_7 ⟨Nat.le_of_ble_eq_true rfl, Nat.le_of_ble_eq_true rfl⟩ (fun _ _ => ?_)
    refine hv_eqst (st' := [.int (zI ((sp_lf (h) : Int)))]) rfl ?_
    refine hv_weq (ws' := []) (rfl) ?_
    refine hv_istore_n C dX3_blown_10 (lw := [(3, .int (zI ((sp_lf (h) : Int)))), (0, .int (zI ((h : Int)))), (1, .int (zI ((S : Int)))), (2, .int (zI ((w : Int))))]) (by decide) rfl ?_
    refine hv_iload_n C dX3_blown_11 3 rfl ?_
    refine hv_iconst C dX3_blown_12 (v := zI (1)) rfl ?_
    refine hv_icmp_ne C dX3_blown_13 (tgt := 24) (by decide) (zI_ne (by omega)) (fun hc13 => ?_) (fun hc13 => ?_)
    · refine hv_iload_n C dX3_blown_24 0 rfl ?_
      refine hv_iconst C dX3_blown_25 (v := zI (2)) rfl ?_
      refine hv_ishr C dX3_blown_26 rfl ?_
      refine hv_iconst C dX3_blown_27 (v := zI (1)) rfl ?_
      refine hv_iconst C dX3_blown_28 (v := zI (2)) rfl ?_
      refine hv_iload_n C dX3_blown_29 2 rfl ?_
      refine hv_iconst C dX3_blown_30 (v := zI (1)) rfl ?_
      refine hv_isub C dX3_blown_31 (zI_sub _ _) ?_
      refine hv_imul C dX3_blown_32 (zI_mul _ _) ?_
      refine hv_ishl C dX3_blown_33 rfl ?_
      refine hv_ior C dX3_blown_34 rfl ?_
      refine hv_istore C dX3_blown_35 (lw := [(4, .int (((((zI ((sp_lf (h) : Int))) >>> ((zI (2)) &&& 31))) ||| (((zI (1)) <<< ((zI ((2) * (((S : Int)) - (1)))) &&& 31)))))), (3, .int (zI ((sp_lf (h) : Int)))), (0, .int (zI ((h : Int)))), (1, .int (zI ((S : Int)))), (2, .int (zI ((w : Int))))]) (by decide) rfl ?_
      refine hv_iload_n C dX3_blown_37 2 rfl ?_
      refine hv_iload_n C dX3_blown_38 1 rfl ?_
      refine hv_iload C dX3_blown_39 0 rfl ?_
      refine hv_iconst C dX3_blown_41 (v := zI (-1)) rfl ?_
      refine hv_ixor C dX3_blown_42 rfl ?_
      refine hv_iand C dX3_blown_43 rfl ?_
      refine hv_isub C dX3_blown_44 rfl ?_
      refine hv_topi (y := zI ((sp_bl S w h : Int))) (by first | (obtain rfl : w = 1 := (by omega); exact sp_bx1 S hS h hh) | (obtain rfl : w = 2 := (by omega); exact sp_bx2 S hS h hh)) ?_
      exact hv_iret C M dX3_blown_45 rfl rfl () trivial rfl [] (List.Perm.of_eq (by first | rfl | exact (List.append_nil _).symm)) (Nat.le_refl _) (Nat.le_refl _)
    · refine hv_iload_n C dX3_blown_16 0 rfl ?_
      refine hv_iconst C dX3_blown_17 (v := zI (2)) rfl ?_
      refine hv_ishl C dX3_blown_18 rfl ?_
      refine hv_iconst C dX3_blown_19 (v := zI (1)) rfl ?_
      refine hv_ior C dX3_blown_20 rfl ?_
      refine hv_goto C dX3_blown_21 (tgt := 35) (by decide) ?_
      refine hv_istore C dX3_blown_35 (lw := [(4, .int (((((zI ((sp_lf (h) : Int))) <<< ((zI (2)) &&& 31))) ||| (zI (1))))), (3, .int (zI ((sp_lf (h) : Int)))), (0, .int (zI ((h : Int)))), (1, .int (zI ((S : Int)))), (2, .int (zI ((w : Int))))]) (by decide) rfl ?_
      refine hv_iload_n C dX3_blown_37 2 rfl ?_
      refine hv_iload_n C dX3_blown_38 1 rfl ?_
      refine hv_iload C dX3_blown_39 0 rfl ?_
      refine hv_iconst C dX3_blown_41 (v := zI (-1)) rfl ?_
      refine hv_ixor C dX3_blown_42 rfl ?_
      refine hv_iand C dX3_blown_43 rfl ?_
      refine hv_isub C dX3_blown_44 rfl ?_
      refine hv_topi (y := zI ((sp_bl S w h : Int))) (by first | (obtain rfl : w = 1 := (by omega); exact sp_bx1 S hS h hh) | (obtain rfl : w = 2 := (by omega); exact sp_bx2 S hS h hh)) ?_
      exact hv_iret C M dX3_blown_45 rfl rfl () trivial rfl [] (List.Perm.of_eq (by first | rfl | exact (List.append_nil _).symm)) (Nat.le_refl _) (Nat.le_refl _)
  · have hw0 : w = 0 := by omega
    refine hv_iload_n C dX3_blown_4 0 rfl ?_
    exact hv_iret C M dX3_blown_5 rfl rfl () trivial (hv_rv (by subst hw0; rfl)) [] (List.Perm.of_eq (by first | rfl | exact (List.append_nil _).symm)) (Nat.le_refl _) (Nat.le_refl _)
