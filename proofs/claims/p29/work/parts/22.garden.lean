abbrev G3 (h0 h1 h2 : Nat) (g : Nat → Int) : va_W := [(h0, .inr (0, [.int (zI (g 0)), .int (zI (g 1)), .int (zI (g 2)), .int (zI (g 3)), .int (zI (g 4)), .int (zI (g 5)), .ref h1, .ref h2])), (h1, .inr (1, [.int (zI (g 6)), .int (zI (g 8)), .int (zI (g 10))])), (h2, .inr (1, [.int (zI (g 7)), .int (zI (g 9)), .int (zI (g 11))]))]
/-- another hedge -/
def sp_plant (g : Nat → Int) (S h : Int) : Nat → Int := fun k => match k with
  | 0 => S
  | 1 => h
  | 2 => g 2
  | 4 => g 4
  | 5 => g 5
  | _ => 0
def sp_new (S h : Int) : Nat → Int := fun k => match k with
  | 0 => S
  | 1 => h
  | 4 => 3
  | 5 => 2
  | _ => 0
def sp_set (g : Nat → Int) (j : Nat) (z : Int) : Nat → Int := fun k => if k = j then z else g k
/-- the fines of a clip that leads from h to b -/
def sp_fi (g : Nat → Int) (h b : Nat) : Int := g 4 * ((sp_lc h : Int) - (sp_lc b : Int))
/-- the state behind a clip that leads from h to b -/
def sp_do (g : Nat → Int) (h b : Nat) : Nat → Int := fun k => match k with
  | 1 => (b : Int)
  | 3 => 1 - g 3
  | 6 => if g 3 = 0 then g 6 + sp_fi g h b else g 6
  | 7 => if g 3 = 0 then g 7 else g 7 + sp_fi g h b
  | 8 => if g 3 = 0 then g 8 + 1 else g 8
  | 9 => if g 3 = 0 then g 9 else g 9 + 1
  | 10 => if g 3 = 0 then g 10 + ((sp_lv h : Int) - (sp_lv b : Int)) else g 10
  | 11 => if g 3 = 0 then g 11 else g 11 + ((sp_lv h : Int) - (sp_lv b : Int))
  | k => g k

set_option maxHeartbeats 4000000 in
set_option maxRecDepth 100000 in
theorem k_X2_init (l : Launch) (D : va_G) (dA : Nat → ClassId) (q : Nat) (x y z : Int) : hv_Ct l yX2_init (hw_W yX2_init cX2_init 1 none) 1 D dA [.ref q] ([(q, .inr (1, [.int (zI (x)), .int (zI (y)), .int (zI (z))]))]) 0 0 (S := Unit) (fun _ => none) (fun _ => True) (fun _ => [(q, .inr (1, [.int (zI (x)), .int (zI (y)), .int (zI (z))]))]) := by
  refine hv_of (cc := cX2_init) (maxL := 1) (ret := none) (own := RX2) rfl (by decide) rfl (Nat.le_of_ble_eq_true rfl) ?_
  intro p e s m args below meth c C M
  refine hv_lveq (lv' := [(0, .ref q)]) rfl ?_
  refine hv_aload_n C dX2_init_0 0 rfl ?_
  refine hv_obj C dX2_init_1 (hw_c tw_m_RX2_1) (hw_c tw_i_objectInit) (hw_c tw_k_objectInit) (Nat.le_of_ble_eq_true rfl) (by decide) ?_
  exact hv_vret C M dX2_init_4 rfl () trivial rfl [] (List.Perm.of_eq (by first | rfl | exact (List.append_nil _).symm)) (Nat.le_refl _) (Nat.le_refl _)

set_option maxHeartbeats 4000000 in
set_option maxRecDepth 100000 in
theorem k_X2_makeNew (l : Launch) (D : va_G) (dA : Nat → ClassId) (q : Nat) (x y z : Int) : hv_Ct l yX2_makeNew (hw_W yX2_makeNew cX2_makeNew 1 none) 0 D dA [.ref q] ([(q, .inr (1, [.int (zI (x)), .int (zI (y)), .int (zI (z))]))]) 0 0 (S := Unit) (fun _ => none) (fun _ => True) (fun _ => [(q, .inr (1, [.int (zI (0)), .int (zI (0)), .int (zI (0))]))]) := by
  refine hv_of (cc := cX2_makeNew) (maxL := 1) (ret := none) (own := RX2) rfl (by decide) rfl (Nat.le_of_ble_eq_true rfl) ?_
  intro p e s m args below meth c C M
  refine hv_lveq (lv' := [(0, .ref q)]) rfl ?_
  refine hv_aload_n C dX2_makeNew_0 0 rfl ?_
  refine hv_iconst C dX2_makeNew_1 (v := zI (0)) rfl ?_
  refine hv_put C dX2_makeNew_2 (fun w h => hw_c (tw_u_2 w h)) tyX2 tyX2_ok nmX2 0 (ci := 1) (ty := .int) rfl rfl 0 (by decide) (hw_c tw_f_RX2_7) rfl rfl rfl rfl (Nat.le_of_ble_eq_true rfl) ?_
  refine hv_weq (ws' := [(q, .inr (1, [.int (zI (0)), .int (zI (y)), .int (zI (z))]))]) rfl ?_
  refine hv_aload_n C dX2_makeNew_5 0 rfl ?_
  refine hv_iconst C dX2_makeNew_6 (v := zI (0)) rfl ?_
  refine hv_put C dX2_makeNew_7 (fun w h => hw_c (tw_u_2 w h)) tyX2 tyX2_ok nmX2 0 (ci := 1) (ty := .int) rfl rfl 1 (by decide) (hw_c tw_f_RX2_13) rfl rfl rfl rfl (Nat.le_of_ble_eq_true rfl) ?_
  refine hv_weq (ws' := [(q, .inr (1, [.int (zI (0)), .int (zI (0)), .int (zI (z))]))]) rfl ?_
  refine hv_aload_n C dX2_makeNew_10 0 rfl ?_
  refine hv_iconst C dX2_makeNew_11 (v := zI (0)) rfl ?_
  refine hv_put C dX2_makeNew_12 (fun w h => hw_c (tw_u_2 w h)) tyX2 tyX2_ok nmX2 0 (ci := 1) (ty := .int) rfl rfl 2 (by decide) (hw_c tw_f_RX2_16) rfl rfl rfl rfl (Nat.le_of_ble_eq_true rfl) ?_
  refine hv_weq (ws' := [(q, .inr (1, [.int (zI (0)), .int (zI (0)), .int (zI (0))]))]) rfl ?_
  exact hv_vret C M dX2_makeNew_15 rfl () trivial rfl [] (List.Perm.of_eq (by first | rfl | exact (List.append_nil _).symm)) (Nat.le_refl _) (Nat.le_refl _)

set_option maxHeartbeats 4000000 in
set_option maxRecDepth 100000 in
theorem k_X2_becomes (l : Launch) (D : va_G) (dA : Nat → ClassId) (q o9 : Nat) (x y z x2 y2 z2 : Int) : hv_Ct l yX2_becomes (hw_W yX2_becomes cX2_becomes 2 none) 0 D dA [.ref q, .ref o9] ([(q, .inr (1, [.int (zI (x)), .int (zI (y)), .int (zI (z))])), (o9, .inr (1, [.int (zI (x2)), .int (zI (y2)), .int (zI (z2))]))]) 0 0 (S := Unit) (fun _ => none) (fun _ => True) (fun _ => [(q, .inr (1, [.int (zI (x2)), .int (zI (y2)), .int (zI (z2))])), (o9, .inr (1, [.int (zI (x2)), .int (zI (y2)), .int (zI (z2))]))]) := by
  refine hv_of (cc := cX2_becomes) (maxL := 2) (ret := none) (own := RX2) rfl (by decide) rfl (Nat.le_of_ble_eq_true rfl) ?_
  intro p e s m args below meth c C M
  refine hv_lveq (lv' := [(0, .ref q), (1, .ref o9)]) rfl ?_
  refine hv_aload_n C dX2_becomes_0 0 rfl ?_
  refine hv_aload_n C dX2_becomes_1 1 rfl ?_
  refine hv_get C dX2_becomes_2 (fun w h => hw_c (tw_u_2 w h)) 1 (ci := 1) rfl rfl 0 (by decide) (hw_c tw_f_RX2_7) rfl ?_
  refine hv_put C dX2_becomes_5 (fun w h => hw_c (tw_u_2 w h)) tyX2 tyX2_ok nmX2 0 (ci := 1) (ty := .int) rfl rfl 0 (by decide) (hw_c tw_f_RX2_7) rfl rfl rfl rfl (Nat.le_of_ble_eq_true rfl) ?_
  refine hv_weq (ws' := [(q, .inr (1, [.int (zI (x2)), .int (zI (y)), .int (zI (z))])), (o9, .inr (1, [.int (zI (x2)), .int (zI (y2)), .int (zI (z2))]))]) rfl ?_
  refine hv_aload_n C dX2_becomes_8 0 rfl ?_
  refine hv_aload_n C dX2_becomes_9 1 rfl ?_
  refine hv_get C dX2_becomes_10 (fun w h => hw_c (tw_u_2 w h)) 1 (ci := 1) rfl rfl 1 (by decide) (hw_c tw_f_RX2_13) rfl ?_
  refine hv_put C dX2_becomes_13 (fun w h => hw_c (tw_u_2 w h)) tyX2 tyX2_ok nmX2 0 (ci := 1) (ty := .int) rfl rfl 1 (by decide) (hw_c tw_f_RX2_13) rfl rfl rfl rfl (Nat.le_of_ble_eq_true rfl) ?_
  refine hv_weq (ws' := [(q, .inr (1, [.int (zI (x2)), .int (zI (y2)), .int (zI (z))])), (o9, .inr (1, [.int (zI (x2)), .int (zI (y2)), .int (zI (z2))]))]) rfl ?_
  refine hv_aload_n C dX2_becomes_16 0 rfl ?_
  refine hv_aload_n C dX2_becomes_17 1 rfl ?_
  refine hv_get C dX2_becomes_18 (fun w h => hw_c (tw_u_2 w h)) 1 (ci := 1) rfl rfl 2 (by decide) (hw_c tw_f_RX2_16) rfl ?_
  refine hv_put C dX2_becomes_21 (fun w h => hw_c (tw_u_2 w h)) tyX2 tyX2_ok nmX2 0 (ci := 1) (ty := .int) rfl rfl 2 (by decide) (hw_c tw_f_RX2_16) rfl rfl rfl rfl (Nat.le_of_ble_eq_true rfl) ?_
  refine hv_weq (ws' := [(q, .inr (1, [.int (zI (x2)), .int (zI (y2)), .int (zI (z2))])), (o9, .inr (1, [.int (zI (x2)), .int (zI (y2)), .int (zI (z2))]))]) rfl ?_
  exact hv_vret C M dX2_becomes_24 rfl () trivial rfl [] (List.Perm.of_eq (by first | rfl | exact (List.append_nil _).symm)) (Nat.le_refl _) (Nat.le_refl _)

set_option maxHeartbeats 4000000 in
set_option maxRecDepth 100000 in
theorem k_X1_replant (l : Launch) (D : va_G) (dA : Nat → ClassId) (h0 h1 h2 : Nat) (g : Nat → Int) (S h : Int) : hv_Ct l yX1_replant (hw_W yX1_replant cX1_replant 3 none) 1 D dA [.ref h0, .int (zI (S)), .int (zI (h))] ([(h0, .inr (0, [.int (zI (g 0)), .int (zI (g 1)), .int (zI (g 2)), .int (zI (g 3)), .int (zI (g 4)), .int (zI (g 5)), .ref h1, .ref h2])), (h1, .inr (1, [.int (zI (g 6)), .int (zI (g 8)), .int (zI (g 10))])), (h2, .inr (1, [.int (zI (g 7)), .int (zI (g 9)), .int (zI (g 11))]))]) 0 0 (S := Unit) (fun _ => none) (fun _ => True) (fun _ => G3 h0 h1 h2 (sp_plant g S h)) := by
  refine hv_of (cc := cX1_replant) (maxL := 3) (ret := none) (own := RX1) rfl (by decide) rfl (Nat.le_of_ble_eq_true rfl) ?_
  intro p e s m args below meth c C M
  refine hv_lveq (lv' := [(0, .ref h0), (1, .int (zI (S))), (2, .int (zI (h)))]) rfl ?_
  refine hv_aload_n C dX1_replant_0 0 rfl ?_
  refine hv_iload_n C dX1_replant_1 1 rfl ?_
  refine hv_put C dX1_replant_2 (fun w h => hw_c (tw_u_1 w h)) tyX1 tyX1_ok nmX1 0 (ci := 0) (ty := .int) rfl rfl 0 (by decide) (hw_c tw_f_RX1_38) rfl rfl rfl rfl (Nat.le_of_ble_eq_true rfl) ?_
  refine hv_weq (ws' := [(h0, .inr (0, [.int (zI (S)), .int (zI (g 1)), .int (zI (g 2)), .int (zI (g 3)), .int (zI (g 4)), .int (zI (g 5)), .ref h1, .ref h2])), (h1, .inr (1, [.int (zI (g 6)), .int (zI (g 8)), .int (zI (g 10))])), (h2, .inr (1, [.int (zI (g 7)), .int (zI (g 9)), .int (zI (g 11))]))]) rfl ?_
  refine hv_aload_n C dX1_replant_5 0 rfl ?_
  refine hv_iload_n C dX1_replant_6 2 rfl ?_
  refine hv_put C dX1_replant_7 (fun w h => hw_c (tw_u_1 w h)) tyX1 tyX1_ok nmX1 0 (ci := 0) (ty := .int) rfl rfl 1 (by decide) (hw_c tw_f_RX1_41) rfl rfl rfl rfl (Nat.le_of_ble_eq_true rfl) ?_
  refine hv_weq (ws' := [(h0, .inr (0, [.int (zI (S)), .int (zI (h)), .int (zI (g 2)), .int (zI (g 3)), .int (zI (g 4)), .int (zI (g 5)), .ref h1, .ref h2])), (h1, .inr (1, [.int (zI (g 6)), .int (zI (g 8)), .int (zI (g 10))])), (h2, .inr (1, [.int (zI (g 7)), .int (zI (g 9)), .int (zI (g 11))]))]) rfl ?_
  refine hv_aload_n C dX1_replant_10 0 rfl ?_
  refine hv_iconst C dX1_replant_11 (v := zI (0)) rfl ?_
  refine hv_put C dX1_replant_12 (fun w h => hw_c (tw_u_1 w h)) tyX1 tyX1_ok nmX1 0 (ci := 0) (ty := .int) rfl rfl 3 (by decide) (hw_c tw_f_RX1_44) rfl rfl rfl rfl (Nat.le_of_ble_eq_true rfl) ?_
  refine hv_weq (ws' := [(h0, .inr (0, [.int (zI (S)), .int (zI (h)), .int (zI (g 2)), .int (zI (0)), .int (zI (g 4)), .int (zI (g 5)), .ref h1, .ref h2])), (h1, .inr (1, [.int (zI (g 6)), .int (zI (g 8)), .int (zI (g 10))])), (h2, .inr (1, [.int (zI (g 7)), .int (zI (g 9)), .int (zI (g 11))]))]) rfl ?_
  refine hv_aload_n C dX1_replant_15 0 rfl ?_
  refine hv_get C dX1_replant_16 (fun w h => hw_c (tw_u_1 w h)) 0 (ci := 0) rfl rfl 6 (by decide) (hw_c tw_f_RX1_12) rfl ?_
  refine hv_callV (As := []) (rest := []) (wc := [(h1, .inr (1, [.int (zI (g 6)), .int (zI (g 8)), .int (zI (g 10))]))]) (wr := [(h0, .inr (0, [.int (zI (S)), .int (zI (h)), .int (zI (g 2)), .int (zI (0)), .int (zI (g 4)), .int (zI (g 5)), .ref h1, .ref h2])), (h2, .inr (1, [.int (zI (g 7)), .int (zI (g 9)), .int (zI (g 11))]))]) C (k_X2_makeNew l D dA h1 (g 6) (g 8) (g 10)) (cwV 0 C.1.2.2.2.2 (hw_V tw_m_RX1_47 tw_i_X2_makeNew tw_s_X2_makeNew tw_n_RX2 tw_k_X2_makeNew) rfl rfl rfl (by decide +kernel) ⟨Nat.le_of_ble_eq_true rfl, Nat.le_of_ble_eq_true rfl⟩) (hv_pm [1] rfl) rfl 0 1 rfl rfl rfl (Nat.le_of_ble_eq_true rfl) dX1_replant_19 ⟨Nat.le_of_ble_eq_true rfl, Nat.le_of_ble_eq_true rfl⟩ (fun _ _ => ?_)
  refine hv_eqst (st' := []) rfl ?_
  refine hv_weq (ws' := [(h1, .inr (1, [.int (zI (0)), .int (zI (0)), .int (zI (0))])), (h0, .inr (0, [.int (zI (S)), .int (zI (h)), .int (zI (g 2)), .int (zI (0)), .int (zI (g 4)), .int (zI (g 5)), .ref h1, .ref h2])), (h2, .inr (1, [.int (zI (g 7)), .int (zI (g 9)), .int (zI (g 11))]))]) (rfl) ?_
  refine hv_srt [1, 0, 0] (ws' := [(h0, .inr (0, [.int (zI (S)), .int (zI (h)), .int (zI (g 2)), .int (zI (0)), .int (zI (g 4)), .int (zI (g 5)), .ref h1, .ref h2])), (h1, .inr (1, [.int (zI (0)), .int (zI (0)), .int (zI (0))])), (h2, .inr (1, [.int (zI (g 7)), .int (zI (g 9)), .int (zI (g 11))]))]) rfl ?_
  refine hv_aload_n C dX1_replant_22 0 rfl ?_
  refine hv_get C dX1_replant_23 (fun w h => hw_c (tw_u_1 w h)) 0 (ci := 0) rfl rfl 7 (by decide) (hw_c tw_f_RX1_18) rfl ?_
  refine hv_callV (As := []) (rest := []) (wc := [(h2, .inr (1, [.int (zI (g 7)), .int (zI (g 9)), .int (zI (g 11))]))]) (wr := [(h0, .inr (0, [.int (zI (S)), .int (zI (h)), .int (zI (g 2)), .int (zI (0)), .int (zI (g 4)), .int (zI (g 5)), .ref h1, .ref h2])), (h1, .inr (1, [.int (zI (0)), .int (zI (0)), .int (zI (0))]))]) C (k_X2_makeNew l D dA h2 (g 7) (g 9) (g 11)) (cwV 0 C.1.2.2.2.2 (hw_V tw_m_RX1_47 tw_i_X2_makeNew tw_s_X2_makeNew tw_n_RX2 tw_k_X2_makeNew) rfl rfl rfl (by decide +kernel) ⟨Nat.le_of_ble_eq_true rfl, Nat.le_of_ble_eq_true rfl⟩) (hv_pm [2] rfl) rfl 0 1 rfl rfl rfl (Nat.le_of_ble_eq_true rfl) dX1_replant_26 ⟨Nat.le_of_ble_eq_true rfl, Nat.le_of_ble_eq_true rfl⟩ (fun _ _ => ?_)
  refine hv_eqst (st' := []) rfl ?_
  refine hv_weq (ws' := [(h2, .inr (1, [.int (zI (0)), .int (zI (0)), .int (zI (0))])), (h0, .inr (0, [.int (zI (S)), .int (zI (h)), .int (zI (g 2)), .int (zI (0)), .int (zI (g 4)), .int (zI (g 5)), .ref h1, .ref h2])), (h1, .inr (1, [.int (zI (0)), .int (zI (0)), .int (zI (0))]))]) (rfl) ?_
  refine hv_srt [1, 1, 0] (ws' := [(h0, .inr (0, [.int (zI (S)), .int (zI (h)), .int (zI (g 2)), .int (zI (0)), .int (zI (g 4)), .int (zI (g 5)), .ref h1, .ref h2])), (h1, .inr (1, [.int (zI (0)), .int (zI (0)), .int (zI (0))])), (h2, .inr (1, [.int (zI (0)), .int (zI (0)), .int (zI (0))]))]) rfl ?_
  exact hv_vret C M dX1_replant_29 rfl () trivial rfl [] (List.Perm.of_eq (by first | rfl | exact (List.append_nil _).symm)) (Nat.le_refl _) (Nat.le_refl _)

set_option maxHeartbeats 4000000 in
set_option maxRecDepth 100000 in
theorem k_X1_makeNew (l : Launch) (D : va_G) (dA : Nat → ClassId) (h0 h1 h2 : Nat) (g : Nat → Int) (S h : Int) : hv_Ct l yX1_makeNew (hw_W yX1_makeNew cX1_makeNew 3 none) 2 D dA [.ref h0, .int (zI (S)), .int (zI (h))] ([(h0, .inr (0, [.int (zI (g 0)), .int (zI (g 1)), .int (zI (g 2)), .int (zI (g 3)), .int (zI (g 4)), .int (zI (g 5)), .ref h1, .ref h2])), (h1, .inr (1, [.int (zI (g 6)), .int (zI (g 8)), .int (zI (g 10))])), (h2, .inr (1, [.int (zI (g 7)), .int (zI (g 9)), .int (zI (g 11))]))]) 0 0 (S := Unit) (fun _ => none) (fun _ => True) (fun _ => G3 h0 h1 h2 (sp_new S h)) := by
  refine hv_of (cc := cX1_makeNew) (maxL := 3) (ret := none) (own := RX1) rfl (by decide) rfl (Nat.le_of_ble_eq_true rfl) ?_
  intro p e s m args below meth c C M
  refine hv_lveq (lv' := [(0, .ref h0), (1, .int (zI (S))), (2, .int (zI (h)))]) rfl ?_
  refine hv_aload_n C dX1_makeNew_0 0 rfl ?_
  refine hv_iconst C dX1_makeNew_1 (v := zI (0)) rfl ?_
  refine hv_put C dX1_makeNew_2 (fun w h => hw_c (tw_u_1 w h)) tyX1 tyX1_ok nmX1 0 (ci := 0) (ty := .int) rfl rfl 2 (by decide) (hw_c tw_f_RX1_25) rfl rfl rfl rfl (Nat.le_of_ble_eq_true rfl) ?_
  refine hv_weq (ws' := [(h0, .inr (0, [.int (zI (g 0)), .int (zI (g 1)), .int (zI (0)), .int (zI (g 3)), .int (zI (g 4)), .int (zI (g 5)), .ref h1, .ref h2])), (h1, .inr (1, [.int (zI (g 6)), .int (zI (g 8)), .int (zI (g 10))])), (h2, .inr (1, [.int (zI (g 7)), .int (zI (g 9)), .int (zI (g 11))]))]) rfl ?_
  refine hv_aload_n C dX1_makeNew_5 0 rfl ?_
  refine hv_iconst C dX1_makeNew_6 (v := zI (3)) rfl ?_
  refine hv_put C dX1_makeNew_7 (fun w h => hw_c (tw_u_1 w h)) tyX1 tyX1_ok nmX1 0 (ci := 0) (ty := .int) rfl rfl 4 (by decide) (hw_c tw_f_RX1_29) rfl rfl rfl rfl (Nat.le_of_ble_eq_true rfl) ?_
  refine hv_weq (ws' := [(h0, .inr (0, [.int (zI (g 0)), .int (zI (g 1)), .int (zI (0)), .int (zI (g 3)), .int (zI (3)), .int (zI (g 5)), .ref h1, .ref h2])), (h1, .inr (1, [.int (zI (g 6)), .int (zI (g 8)), .int (zI (g 10))])), (h2, .inr (1, [.int (zI (g 7)), .int (zI (g 9)), .int (zI (g 11))]))]) rfl ?_
  refine hv_aload_n C dX1_makeNew_10 0 rfl ?_
  refine hv_iconst C dX1_makeNew_11 (v := zI (2)) rfl ?_
  refine hv_put C dX1_makeNew_12 (fun w h => hw_c (tw_u_1 w h)) tyX1 tyX1_ok nmX1 0 (ci := 0) (ty := .int) rfl rfl 5 (by decide) (hw_c tw_f_RX1_32) rfl rfl rfl rfl (Nat.le_of_ble_eq_true rfl) ?_
  refine hv_weq (ws' := [(h0, .inr (0, [.int (zI (g 0)), .int (zI (g 1)), .int (zI (0)), .int (zI (g 3)), .int (zI (3)), .int (zI (2)), .ref h1, .ref h2])), (h1, .inr (1, [.int (zI (g 6)), .int (zI (g 8)), .int (zI (g 10))])), (h2, .inr (1, [.int (zI (g 7)), .int (zI (g 9)), .int (zI (g 11))]))]) rfl ?_
  refine hv_aload_n C dX1_makeNew_15 0 rfl ?_
  refine hv_iload_n C dX1_makeNew_16 1 rfl ?_
  refine hv_iload_n C dX1_makeNew_17 2 rfl ?_
  refine hv_callV (As := [.int (zI (S)), .int (zI (h))]) (rest := []) (wc := [(h0, .inr (0, [.int (zI (g 0)), .int (zI (g 1)), .int (zI (0)), .int (zI (g 3)), .int (zI (3)), .int (zI (2)), .ref h1, .ref h2])), (h1, .inr (1, [.int (zI (g 6)), .int (zI (g 8)), .int (zI (g 10))])), (h2, .inr (1, [.int (zI (g 7)), .int (zI (g 9)), .int (zI (g 11))]))]) (wr := []) C (k_X1_replant l D dA h0 h1 h2 (fun k => match k with | 0 => g 0 | 1 => g 1 | 2 => 0 | 3 => g 3 | 4 => 3 | 5 => 2 | 6 => g 6 | 8 => g 8 | 10 => g 10 | 7 => g 7 | 9 => g 9 | _ => g 11) (S) (h)) (cwV 2 C.1.2.2.2.2 (hw_V tw_m_RX1_35 tw_i_X1_replant tw_s_X1_replant tw_n_RX1 tw_k_X1_replant) rfl rfl rfl (by decide +kernel) ⟨Nat.le_of_ble_eq_true rfl, Nat.le_of_ble_eq_true rfl⟩) (hv_pm [0, 0, 0] rfl) rfl 0 0 rfl rfl rfl (Nat.le_of_ble_eq_true rfl) dX1_makeNew_18 ⟨Nat.le_of_ble_eq_true rfl, Nat.le_of_ble_eq_true rfl⟩ (fun _ _ => ?_)
  refine hv_eqst (st' := []) rfl ?_
  refine hv_weq (ws' := [(h0, .inr (0, [.int (zI (S)), .int (zI (h)), .int (zI (0)), .int (zI (0)), .int (zI (3)), .int (zI (2)), .ref h1, .ref h2])), (h1, .inr (1, [.int (zI (0)), .int (zI (0)), .int (zI (0))])), (h2, .inr (1, [.int (zI (0)), .int (zI (0)), .int (zI (0))]))]) (rfl) ?_
  exact hv_vret C M dX1_makeNew_21 rfl () trivial rfl [] (List.Perm.of_eq (by first | rfl | exact (List.append_nil _).symm)) (Nat.le_refl _) (Nat.le_refl _)

set_option maxHeartbeats 4000000 in
set_option maxRecDepth 100000 in
theorem k_X1_init (l : Launch) (D : va_G) (dA : Nat → ClassId) (h0 : Nat) : hv_Ct l yX1_init (hw_W yX1_init cX1_init 1 none) 3 D dA [.ref h0] ([(h0, .inr (0, [.int (zI (0)), .int (zI (0)), .int (zI (0)), .int (zI (0)), .int (zI (0)), .int (zI (0)), .null, .null]))]) 2 6 (S := Nat × Nat) (fun _ => none) (fun _ => True) (fun u => G3 h0 u.1 u.2 (sp_new 4 170)) := by
  refine hv_of (cc := cX1_init) (maxL := 1) (ret := none) (own := RX1) rfl (by decide) rfl (Nat.le_of_ble_eq_true rfl) ?_
  intro p e s m args below meth c C M
  refine hv_lveq (lv' := [(0, .ref h0)]) rfl ?_
  refine hv_aload_n C dX1_init_0 0 rfl ?_
  refine hv_obj C dX1_init_1 (hw_c tw_m_RX1_3) (hw_c tw_i_objectInit) (hw_c tw_k_objectInit) (Nat.le_of_ble_eq_true rfl) (by decide) ?_
  refine hv_aload_n C dX1_init_4 0 rfl ?_
  refine hv_new C (ci := 1) (fs := [.int (zI (0)), .int (zI (0)), .int (zI (0))]) dX1_init_5 (fun w h => hw_c (tw_u_2 w h)) tyX2 tyX2_ok (hw_c tw_c_RX1_9) (hw_c tw_z_RX2) (hw_c tw_n_RX2) rfl (fun j hj => by rcases (show j = 0 ∨ j = 1 ∨ j = 2 by omega) with rfl | rfl | rfl <;> rfl) (Nat.le_of_ble_eq_true rfl) (Nat.le_of_ble_eq_true rfl) (fun q1 => ?_)
  refine hv_weq (ws' := [(h0, .inr (0, [.int (zI (0)), .int (zI (0)), .int (zI (0)), .int (zI (0)), .int (zI (0)), .int (zI (0)), .null, .null])), (q1, .inr (1, [.int (zI (0)), .int (zI (0)), .int (zI (0))]))]) rfl ?_
  refine hv_dup C dX1_init_8 rfl ?_
  refine hv_callIN (As := []) (rest := [.ref q1, .ref h0]) (wc := [(q1, .inr (1, [.int (zI (0)), .int (zI (0)), .int (zI (0))]))]) (wr := [(h0, .inr (0, [.int (zI (0)), .int (zI (0)), .int (zI (0)), .int (zI (0)), .int (zI (0)), .int (zI (0)), .null, .null]))]) C (k_X2_init l D dA q1 0 0 0) ⟨va_cnB 0 C.1.2.2.2.2 (hw_good tw_k_X2_init) rfl rfl rfl (C.2.2.2.2.1 _ tw_mn_RX1_11) (C.1.2.2.2.2 _ (hw_c tw_n_RX2)) (by decide +kernel) ⟨Nat.le_of_ble_eq_true rfl, Nat.le_of_ble_eq_true rfl⟩, rfl, C.1.2.2.2.2 _ (hw_c tw_i_X2_init)⟩ (hv_pm [1] rfl) rfl rfl (Nat.le_of_ble_eq_true rfl) dX1_init_9 ⟨Nat.le_of_ble_eq_true rfl, Nat.le_of_ble_eq_true rfl⟩ (fun _ _ => ?_)
  refine hv_eqst (st' := [.ref q1, .ref h0]) rfl ?_
  refine hv_weq (ws' := [(q1, .inr (1, [.int (zI (0)), .int (zI (0)), .int (zI (0))])), (h0, .inr (0, [.int (zI (0)), .int (zI (0)), .int (zI (0)), .int (zI (0)), .int (zI (0)), .int (zI (0)), .null, .null]))]) (rfl) ?_
  refine hv_srt [1, 0] (ws' := [(h0, .inr (0, [.int (zI (0)), .int (zI (0)), .int (zI (0)), .int (zI (0)), .int (zI (0)), .int (zI (0)), .null, .null])), (q1, .inr (1, [.int (zI (0)), .int (zI (0)), .int (zI (0))]))]) rfl ?_
  refine hv_putF C dX1_init_12 (fun w h => hw_c (tw_u_1 w h)) tyX1 tyX1_ok nmX1 0 (ci := 0) (ty := (.object "HedgeClips$Gardener")) rfl rfl 6 (by decide) (hw_c tw_f_RX1_12) rfl M.2.2 rfl rfl rfl rfl (Nat.le_of_ble_eq_true rfl) ?_
  refine hv_weq (ws' := [(h0, .inr (0, [.int (zI (0)), .int (zI (0)), .int (zI (0)), .int (zI (0)), .int (zI (0)), .int (zI (0)), .ref q1, .null])), (q1, .inr (1, [.int (zI (0)), .int (zI (0)), .int (zI (0))]))]) rfl ?_
  refine hv_aload_n C dX1_init_15 0 rfl ?_
  refine hv_new C (ci := 1) (fs := [.int (zI (0)), .int (zI (0)), .int (zI (0))]) dX1_init_16 (fun w h => hw_c (tw_u_2 w h)) tyX2 tyX2_ok (hw_c tw_c_RX1_9) (hw_c tw_z_RX2) (hw_c tw_n_RX2) rfl (fun j hj => by rcases (show j = 0 ∨ j = 1 ∨ j = 2 by omega) with rfl | rfl | rfl <;> rfl) (Nat.le_of_ble_eq_true rfl) (Nat.le_of_ble_eq_true rfl) (fun q2 => ?_)
  refine hv_weq (ws' := [(h0, .inr (0, [.int (zI (0)), .int (zI (0)), .int (zI (0)), .int (zI (0)), .int (zI (0)), .int (zI (0)), .ref q1, .null])), (q1, .inr (1, [.int (zI (0)), .int (zI (0)), .int (zI (0))])), (q2, .inr (1, [.int (zI (0)), .int (zI (0)), .int (zI (0))]))]) rfl ?_
  refine hv_dup C dX1_init_19 rfl ?_
  refine hv_callIN (As := []) (rest := [.ref q2, .ref h0]) (wc := [(q2, .inr (1, [.int (zI (0)), .int (zI (0)), .int (zI (0))]))]) (wr := [(h0, .inr (0, [.int (zI (0)), .int (zI (0)), .int (zI (0)), .int (zI (0)), .int (zI (0)), .int (zI (0)), .ref q1, .null])), (q1, .inr (1, [.int (zI (0)), .int (zI (0)), .int (zI (0))]))]) C (k_X2_init l D dA q2 0 0 0) ⟨va_cnB 0 C.1.2.2.2.2 (hw_good tw_k_X2_init) rfl rfl rfl (C.2.2.2.2.1 _ tw_mn_RX1_11) (C.1.2.2.2.2 _ (hw_c tw_n_RX2)) (by decide +kernel) ⟨Nat.le_of_ble_eq_true rfl, Nat.le_of_ble_eq_true rfl⟩, rfl, C.1.2.2.2.2 _ (hw_c tw_i_X2_init)⟩ (hv_pm [2] rfl) rfl rfl (Nat.le_of_ble_eq_true rfl) dX1_init_20 ⟨Nat.le_of_ble_eq_true rfl, Nat.le_of_ble_eq_true rfl⟩ (fun _ _ => ?_)
  refine hv_eqst (st' := [.ref q2, .ref h0]) rfl ?_
  refine hv_weq (ws' := [(q2, .inr (1, [.int (zI (0)), .int (zI (0)), .int (zI (0))])), (h0, .inr (0, [.int (zI (0)), .int (zI (0)), .int (zI (0)), .int (zI (0)), .int (zI (0)), .int (zI (0)), .ref q1, .null])), (q1, .inr (1, [.int (zI (0)), .int (zI (0)), .int (zI (0))]))]) (rfl) ?_
  refine hv_srt [1, 1, 0] (ws' := [(h0, .inr (0, [.int (zI (0)), .int (zI (0)), .int (zI (0)), .int (zI (0)), .int (zI (0)), .int (zI (0)), .ref q1, .null])), (q1, .inr (1, [.int (zI (0)), .int (zI (0)), .int (zI (0))])), (q2, .inr (1, [.int (zI (0)), .int (zI (0)), .int (zI (0))]))]) rfl ?_
  refine hv_putF C dX1_init_23 (fun w h => hw_c (tw_u_1 w h)) tyX1 tyX1_ok nmX1 0 (ci := 0) (ty := (.object "HedgeClips$Gardener")) rfl rfl 7 (by decide) (hw_c tw_f_RX1_18) rfl M.2.2 rfl rfl rfl rfl (Nat.le_of_ble_eq_true rfl) ?_
  refine hv_weq (ws' := [(h0, .inr (0, [.int (zI (0)), .int (zI (0)), .int (zI (0)), .int (zI (0)), .int (zI (0)), .int (zI (0)), .ref q1, .ref q2])), (q1, .inr (1, [.int (zI (0)), .int (zI (0)), .int (zI (0))])), (q2, .inr (1, [.int (zI (0)), .int (zI (0)), .int (zI (0))]))]) rfl ?_
  refine hv_aload_n C dX1_init_26 0 rfl ?_
  refine hv_iconst C dX1_init_27 (v := zI (4)) rfl ?_
  refine hv_sipush C dX1_init_28 (v := zI (170)) (by decide +kernel) ?_
  refine hv_callV (As := [.int (zI (4)), .int (zI (170))]) (rest := []) (wc := [(h0, .inr (0, [.int (zI (0)), .int (zI (0)), .int (zI (0)), .int (zI (0)), .int (zI (0)), .int (zI (0)), .ref q1, .ref q2])), (q1, .inr (1, [.int (zI (0)), .int (zI (0)), .int (zI (0))])), (q2, .inr (1, [.int (zI (0)), .int (zI (0)), .int (zI (0))]))]) (wr := []) C (k_X1_makeNew l D dA h0 q1 q2 (fun _ => 0) 4 170) (cwV 2 C.1.2.2.2.2 (hw_V tw_m_RX1_21 tw_i_X1_makeNew tw_s_X1_makeNew tw_n_RX1 tw_k_X1_makeNew) rfl rfl rfl (by decide +kernel) ⟨Nat.le_of_ble_eq_true rfl, Nat.le_of_ble_eq_true rfl⟩) (hv_pm [0, 0, 0] rfl) rfl 0 0 rfl rfl rfl (Nat.le_of_ble_eq_true rfl) dX1_init_31 ⟨Nat.le_of_ble_eq_true rfl, Nat.le_of_ble_eq_true rfl⟩ (fun _ _ => ?_)
  refine hv_eqst (st' := []) rfl ?_
  refine hv_weq (ws' := [(h0, .inr (0, [.int (zI (sp_new 4 170 0)), .int (zI (sp_new 4 170 1)), .int (zI (sp_new 4 170 2)), .int (zI (sp_new 4 170 3)), .int (zI (sp_new 4 170 4)), .int (zI (sp_new 4 170 5)), .ref q1, .ref q2])), (q1, .inr (1, [.int (zI (sp_new 4 170 6)), .int (zI (sp_new 4 170 8)), .int (zI (sp_new 4 170 10))])), (q2, .inr (1, [.int (zI (sp_new 4 170 7)), .int (zI (sp_new 4 170 9)), .int (zI (sp_new 4 170 11))]))]) (rfl) ?_
  exact hv_vret C M dX1_init_34 rfl (q1, q2) trivial rfl [] (List.Perm.of_eq (by first | rfl | exact (List.append_nil _).symm)) (Nat.le_refl _) (Nat.le_refl _)

set_option maxHeartbeats 4000000 in
set_option maxRecDepth 100000 in
theorem k_X1_becomes (l : Launch) (D : va_G) (dA : Nat → ClassId) (h0 h1 h2 o0 o1 o2 : Nat) (g f : Nat → Int) : hv_Ct l yX1_becomes (hw_W yX1_becomes cX1_becomes 2 none) 1 D dA [.ref h0, .ref o0] ([(h0, .inr (0, [.int (zI (g 0)), .int (zI (g 1)), .int (zI (g 2)), .int (zI (g 3)), .int (zI (g 4)), .int (zI (g 5)), .ref h1, .ref h2])), (h1, .inr (1, [.int (zI (g 6)), .int (zI (g 8)), .int (zI (g 10))])), (h2, .inr (1, [.int (zI (g 7)), .int (zI (g 9)), .int (zI (g 11))])), (o0, .inr (0, [.int (zI (f 0)), .int (zI (f 1)), .int (zI (f 2)), .int (zI (f 3)), .int (zI (f 4)), .int (zI (f 5)), .ref o1, .ref o2])), (o1, .inr (1, [.int (zI (f 6)), .int (zI (f 8)), .int (zI (f 10))])), (o2, .inr (1, [.int (zI (f 7)), .int (zI (f 9)), .int (zI (f 11))]))]) 0 0 (S := Unit) (fun _ => none) (fun _ => True) (fun _ => G3 h0 h1 h2 f ++ G3 o0 o1 o2 f) := by
  refine hv_of (cc := cX1_becomes) (maxL := 2) (ret := none) (own := RX1) rfl (by decide) rfl (Nat.le_of_ble_eq_true rfl) ?_
  intro p e s m args below meth c C M
  refine hv_lveq (lv' := [(0, .ref h0), (1, .ref o0)]) rfl ?_
  refine hv_aload_n C dX1_becomes_0 0 rfl ?_
  refine hv_aload_n C dX1_becomes_1 1 rfl ?_
  refine hv_get C dX1_becomes_2 (fun w h => hw_c (tw_u_1 w h)) 3 (ci := 0) rfl rfl 0 (by decide) (hw_c tw_f_RX1_38) rfl ?_
  refine hv_put C dX1_becomes_5 (fun w h => hw_c (tw_u_1 w h)) tyX1 tyX1_ok nmX1 0 (ci := 0) (ty := .int) rfl rfl 0 (by decide) (hw_c tw_f_RX1_38) rfl rfl rfl rfl (Nat.le_of_ble_eq_true rfl) ?_
  refine hv_weq (ws' := [(h0, .inr (0, [.int (zI (f 0)), .int (zI (g 1)), .int (zI (g 2)), .int (zI (g 3)), .int (zI (g 4)), .int (zI (g 5)), .ref h1, .ref h2])), (h1, .inr (1, [.int (zI (g 6)), .int (zI (g 8)), .int (zI (g 10))])), (h2, .inr (1, [.int (zI (g 7)), .int (zI (g 9)), .int (zI (g 11))])), (o0, .inr (0, [.int (zI (f 0)), .int (zI (f 1)), .int (zI (f 2)), .int (zI (f 3)), .int (zI (f 4)), .int (zI (f 5)), .ref o1, .ref o2])), (o1, .inr (1, [.int (zI (f 6)), .int (zI (f 8)), .int (zI (f 10))])), (o2, .inr (1, [.int (zI (f 7)), .int (zI (f 9)), .int (zI (f 11))]))]) rfl ?_
  refine hv_aload_n C dX1_becomes_8 0 rfl ?_
  refine hv_aload_n C dX1_becomes_9 1 rfl ?_
  refine hv_get C dX1_becomes_10 (fun w h => hw_c (tw_u_1 w h)) 3 (ci := 0) rfl rfl 1 (by decide) (hw_c tw_f_RX1_41) rfl ?_
  refine hv_put C dX1_becomes_13 (fun w h => hw_c (tw_u_1 w h)) tyX1 tyX1_ok nmX1 0 (ci := 0) (ty := .int) rfl rfl 1 (by decide) (hw_c tw_f_RX1_41) rfl rfl rfl rfl (Nat.le_of_ble_eq_true rfl) ?_
  refine hv_weq (ws' := [(h0, .inr (0, [.int (zI (f 0)), .int (zI (f 1)), .int (zI (g 2)), .int (zI (g 3)), .int (zI (g 4)), .int (zI (g 5)), .ref h1, .ref h2])), (h1, .inr (1, [.int (zI (g 6)), .int (zI (g 8)), .int (zI (g 10))])), (h2, .inr (1, [.int (zI (g 7)), .int (zI (g 9)), .int (zI (g 11))])), (o0, .inr (0, [.int (zI (f 0)), .int (zI (f 1)), .int (zI (f 2)), .int (zI (f 3)), .int (zI (f 4)), .int (zI (f 5)), .ref o1, .ref o2])), (o1, .inr (1, [.int (zI (f 6)), .int (zI (f 8)), .int (zI (f 10))])), (o2, .inr (1, [.int (zI (f 7)), .int (zI (f 9)), .int (zI (f 11))]))]) rfl ?_
  refine hv_aload_n C dX1_becomes_16 0 rfl ?_
  refine hv_aload_n C dX1_becomes_17 1 rfl ?_
  refine hv_get C dX1_becomes_18 (fun w h => hw_c (tw_u_1 w h)) 3 (ci := 0) rfl rfl 2 (by decide) (hw_c tw_f_RX1_25) rfl ?_
  refine hv_put C dX1_becomes_21 (fun w h => hw_c (tw_u_1 w h)) tyX1 tyX1_ok nmX1 0 (ci := 0) (ty := .int) rfl rfl 2 (by decide) (hw_c tw_f_RX1_25) rfl rfl rfl rfl (Nat.le_of_ble_eq_true rfl) ?_
  refine hv_weq (ws' := [(h0, .inr (0, [.int (zI (f 0)), .int (zI (f 1)), .int (zI (f 2)), .int (zI (g 3)), .int (zI (g 4)), .int (zI (g 5)), .ref h1, .ref h2])), (h1, .inr (1, [.int (zI (g 6)), .int (zI (g 8)), .int (zI (g 10))])), (h2, .inr (1, [.int (zI (g 7)), .int (zI (g 9)), .int (zI (g 11))])), (o0, .inr (0, [.int (zI (f 0)), .int (zI (f 1)), .int (zI (f 2)), .int (zI (f 3)), .int (zI (f 4)), .int (zI (f 5)), .ref o1, .ref o2])), (o1, .inr (1, [.int (zI (f 6)), .int (zI (f 8)), .int (zI (f 10))])), (o2, .inr (1, [.int (zI (f 7)), .int (zI (f 9)), .int (zI (f 11))]))]) rfl ?_
  refine hv_aload_n C dX1_becomes_24 0 rfl ?_
  refine hv_aload_n C dX1_becomes_25 1 rfl ?_
  refine hv_get C dX1_becomes_26 (fun w h => hw_c (tw_u_1 w h)) 3 (ci := 0) rfl rfl 3 (by decide) (hw_c tw_f_RX1_44) rfl ?_
  refine hv_put C dX1_becomes_29 (fun w h => hw_c (tw_u_1 w h)) tyX1 tyX1_ok nmX1 0 (ci := 0) (ty := .int) rfl rfl 3 (by decide) (hw_c tw_f_RX1_44) rfl rfl rfl rfl (Nat.le_of_ble_eq_true rfl) ?_
  refine hv_weq (ws' := [(h0, .inr (0, [.int (zI (f 0)), .int (zI (f 1)), .int (zI (f 2)), .int (zI (f 3)), .int (zI (g 4)), .int (zI (g 5)), .ref h1, .ref h2])), (h1, .inr (1, [.int (zI (g 6)), .int (zI (g 8)), .int (zI (g 10))])), (h2, .inr (1, [.int (zI (g 7)), .int (zI (g 9)), .int (zI (g 11))])), (o0, .inr (0, [.int (zI (f 0)), .int (zI (f 1)), .int (zI (f 2)), .int (zI (f 3)), .int (zI (f 4)), .int (zI (f 5)), .ref o1, .ref o2])), (o1, .inr (1, [.int (zI (f 6)), .int (zI (f 8)), .int (zI (f 10))])), (o2, .inr (1, [.int (zI (f 7)), .int (zI (f 9)), .int (zI (f 11))]))]) rfl ?_
  refine hv_aload_n C dX1_becomes_32 0 rfl ?_
  refine hv_aload_n C dX1_becomes_33 1 rfl ?_
  refine hv_get C dX1_becomes_34 (fun w h => hw_c (tw_u_1 w h)) 3 (ci := 0) rfl rfl 4 (by decide) (hw_c tw_f_RX1_29) rfl ?_
  refine hv_put C dX1_becomes_37 (fun w h => hw_c (tw_u_1 w h)) tyX1 tyX1_ok nmX1 0 (ci := 0) (ty := .int) rfl rfl 4 (by decide) (hw_c tw_f_RX1_29) rfl rfl rfl rfl (Nat.le_of_ble_eq_true rfl) ?_
  refine hv_weq (ws' := [(h0, .inr (0, [.int (zI (f 0)), .int (zI (f 1)), .int (zI (f 2)), .int (zI (f 3)), .int (zI (f 4)), .int (zI (g 5)), .ref h1, .ref h2])), (h1, .inr (1, [.int (zI (g 6)), .int (zI (g 8)), .int (zI (g 10))])), (h2, .inr (1, [.int (zI (g 7)), .int (zI (g 9)), .int (zI (g 11))])), (o0, .inr (0, [.int (zI (f 0)), .int (zI (f 1)), .int (zI (f 2)), .int (zI (f 3)), .int (zI (f 4)), .int (zI (f 5)), .ref o1, .ref o2])), (o1, .inr (1, [.int (zI (f 6)), .int (zI (f 8)), .int (zI (f 10))])), (o2, .inr (1, [.int (zI (f 7)), .int (zI (f 9)), .int (zI (f 11))]))]) rfl ?_
  refine hv_aload_n C dX1_becomes_40 0 rfl ?_
  refine hv_aload_n C dX1_becomes_41 1 rfl ?_
  refine hv_get C dX1_becomes_42 (fun w h => hw_c (tw_u_1 w h)) 3 (ci := 0) rfl rfl 5 (by decide) (hw_c tw_f_RX1_32) rfl ?_
  refine hv_put C dX1_becomes_45 (fun w h => hw_c (tw_u_1 w h)) tyX1 tyX1_ok nmX1 0 (ci := 0) (ty := .int) rfl rfl 5 (by decide) (hw_c tw_f_RX1_32) rfl rfl rfl rfl (Nat.le_of_ble_eq_true rfl) ?_
  refine hv_weq (ws' := [(h0, .inr (0, [.int (zI (f 0)), .int (zI (f 1)), .int (zI (f 2)), .int (zI (f 3)), .int (zI (f 4)), .int (zI (f 5)), .ref h1, .ref h2])), (h1, .inr (1, [.int (zI (g 6)), .int (zI (g 8)), .int (zI (g 10))])), (h2, .inr (1, [.int (zI (g 7)), .int (zI (g 9)), .int (zI (g 11))])), (o0, .inr (0, [.int (zI (f 0)), .int (zI (f 1)), .int (zI (f 2)), .int (zI (f 3)), .int (zI (f 4)), .int (zI (f 5)), .ref o1, .ref o2])), (o1, .inr (1, [.int (zI (f 6)), .int (zI (f 8)), .int (zI (f 10))])), (o2, .inr (1, [.int (zI (f 7)), .int (zI (f 9)), .int (zI (f 11))]))]) rfl ?_
  refine hv_aload_n C dX1_becomes_48 0 rfl ?_
  refine hv_get C dX1_becomes_49 (fun w h => hw_c (tw_u_1 w h)) 0 (ci := 0) rfl rfl 6 (by decide) (hw_c tw_f_RX1_12) rfl ?_
  refine hv_aload_n C dX1_becomes_52 1 rfl ?_
  refine hv_get C dX1_becomes_53 (fun w h => hw_c (tw_u_1 w h)) 3 (ci := 0) rfl rfl 6 (by decide) (hw_c tw_f_RX1_12) rfl ?_
  refine hv_callV (As := [.ref o1]) (rest := []) (wc := [(h1, .inr (1, [.int (zI (g 6)), .int (zI (g 8)), .int (zI (g 10))])), (o1, .inr (1, [.int (zI (f 6)), .int (zI (f 8)), .int (zI (f 10))]))]) (wr := [(h0, .inr (0, [.int (zI (f 0)), .int (zI (f 1)), .int (zI (f 2)), .int (zI (f 3)), .int (zI (f 4)), .int (zI (f 5)), .ref h1, .ref h2])), (h2, .inr (1, [.int (zI (g 7)), .int (zI (g 9)), .int (zI (g 11))])), (o0, .inr (0, [.int (zI (f 0)), .int (zI (f 1)), .int (zI (f 2)), .int (zI (f 3)), .int (zI (f 4)), .int (zI (f 5)), .ref o1, .ref o2])), (o2, .inr (1, [.int (zI (f 7)), .int (zI (f 9)), .int (zI (f 11))]))]) C (k_X2_becomes l D dA h1 o1 (g 6) (g 8) (g 10) (f 6) (f 8) (f 10)) (cwV 1 C.1.2.2.2.2 (hw_V tw_m_RX1_49 tw_i_X2_becomes tw_s_X2_becomes tw_n_RX2 tw_k_X2_becomes) rfl rfl rfl (by decide +kernel) ⟨Nat.le_of_ble_eq_true rfl, Nat.le_of_ble_eq_true rfl⟩) (hv_pm [1, 3] rfl) rfl 0 1 rfl rfl rfl (Nat.le_of_ble_eq_true rfl) dX1_becomes_56 ⟨Nat.le_of_ble_eq_true rfl, Nat.le_of_ble_eq_true rfl⟩ (fun _ _ => ?_)
  refine hv_eqst (st' := []) rfl ?_
  refine hv_weq (ws' := [(h1, .inr (1, [.int (zI (f 6)), .int (zI (f 8)), .int (zI (f 10))])), (o1, .inr (1, [.int (zI (f 6)), .int (zI (f 8)), .int (zI (f 10))])), (h0, .inr (0, [.int (zI (f 0)), .int (zI (f 1)), .int (zI (f 2)), .int (zI (f 3)), .int (zI (f 4)), .int (zI (f 5)), .ref h1, .ref h2])), (h2, .inr (1, [.int (zI (g 7)), .int (zI (g 9)), .int (zI (g 11))])), (o0, .inr (0, [.int (zI (f 0)), .int (zI (f 1)), .int (zI (f 2)), .int (zI (f 3)), .int (zI (f 4)), .int (zI (f 5)), .ref o1, .ref o2])), (o2, .inr (1, [.int (zI (f 7)), .int (zI (f 9)), .int (zI (f 11))]))]) (rfl) ?_
  refine hv_srt [2, 0, 1, 1, 0, 0] (ws' := [(h0, .inr (0, [.int (zI (f 0)), .int (zI (f 1)), .int (zI (f 2)), .int (zI (f 3)), .int (zI (f 4)), .int (zI (f 5)), .ref h1, .ref h2])), (h1, .inr (1, [.int (zI (f 6)), .int (zI (f 8)), .int (zI (f 10))])), (h2, .inr (1, [.int (zI (g 7)), .int (zI (g 9)), .int (zI (g 11))])), (o0, .inr (0, [.int (zI (f 0)), .int (zI (f 1)), .int (zI (f 2)), .int (zI (f 3)), .int (zI (f 4)), .int (zI (f 5)), .ref o1, .ref o2])), (o1, .inr (1, [.int (zI (f 6)), .int (zI (f 8)), .int (zI (f 10))])), (o2, .inr (1, [.int (zI (f 7)), .int (zI (f 9)), .int (zI (f 11))]))]) rfl ?_
  refine hv_aload_n C dX1_becomes_59 0 rfl ?_
  refine hv_get C dX1_becomes_60 (fun w h => hw_c (tw_u_1 w h)) 0 (ci := 0) rfl rfl 7 (by decide) (hw_c tw_f_RX1_18) rfl ?_
  refine hv_aload_n C dX1_becomes_63 1 rfl ?_
  refine hv_get C dX1_becomes_64 (fun w h => hw_c (tw_u_1 w h)) 3 (ci := 0) rfl rfl 7 (by decide) (hw_c tw_f_RX1_18) rfl ?_
  refine hv_callV (As := [.ref o2]) (rest := []) (wc := [(h2, .inr (1, [.int (zI (g 7)), .int (zI (g 9)), .int (zI (g 11))])), (o2, .inr (1, [.int (zI (f 7)), .int (zI (f 9)), .int (zI (f 11))]))]) (wr := [(h0, .inr (0, [.int (zI (f 0)), .int (zI (f 1)), .int (zI (f 2)), .int (zI (f 3)), .int (zI (f 4)), .int (zI (f 5)), .ref h1, .ref h2])), (h1, .inr (1, [.int (zI (f 6)), .int (zI (f 8)), .int (zI (f 10))])), (o0, .inr (0, [.int (zI (f 0)), .int (zI (f 1)), .int (zI (f 2)), .int (zI (f 3)), .int (zI (f 4)), .int (zI (f 5)), .ref o1, .ref o2])), (o1, .inr (1, [.int (zI (f 6)), .int (zI (f 8)), .int (zI (f 10))]))]) C (k_X2_becomes l D dA h2 o2 (g 7) (g 9) (g 11) (f 7) (f 9) (f 11)) (cwV 1 C.1.2.2.2.2 (hw_V tw_m_RX1_49 tw_i_X2_becomes tw_s_X2_becomes tw_n_RX2 tw_k_X2_becomes) rfl rfl rfl (by decide +kernel) ⟨Nat.le_of_ble_eq_true rfl, Nat.le_of_ble_eq_true rfl⟩) (hv_pm [2, 4] rfl) rfl 0 1 rfl rfl rfl (Nat.le_of_ble_eq_true rfl) dX1_becomes_67 ⟨Nat.le_of_ble_eq_true rfl, Nat.le_of_ble_eq_true rfl⟩ (fun _ _ => ?_)
  refine hv_eqst (st' := []) rfl ?_
  refine hv_weq (ws' := [(h2, .inr (1, [.int (zI (f 7)), .int (zI (f 9)), .int (zI (f 11))])), (o2, .inr (1, [.int (zI (f 7)), .int (zI (f 9)), .int (zI (f 11))])), (h0, .inr (0, [.int (zI (f 0)), .int (zI (f 1)), .int (zI (f 2)), .int (zI (f 3)), .int (zI (f 4)), .int (zI (f 5)), .ref h1, .ref h2])), (h1, .inr (1, [.int (zI (f 6)), .int (zI (f 8)), .int (zI (f 10))])), (o0, .inr (0, [.int (zI (f 0)), .int (zI (f 1)), .int (zI (f 2)), .int (zI (f 3)), .int (zI (f 4)), .int (zI (f 5)), .ref o1, .ref o2])), (o1, .inr (1, [.int (zI (f 6)), .int (zI (f 8)), .int (zI (f 10))]))]) (rfl) ?_
  refine hv_srt [2, 2, 0, 1, 1, 0] (ws' := [(h0, .inr (0, [.int (zI (f 0)), .int (zI (f 1)), .int (zI (f 2)), .int (zI (f 3)), .int (zI (f 4)), .int (zI (f 5)), .ref h1, .ref h2])), (h1, .inr (1, [.int (zI (f 6)), .int (zI (f 8)), .int (zI (f 10))])), (h2, .inr (1, [.int (zI (f 7)), .int (zI (f 9)), .int (zI (f 11))])), (o0, .inr (0, [.int (zI (f 0)), .int (zI (f 1)), .int (zI (f 2)), .int (zI (f 3)), .int (zI (f 4)), .int (zI (f 5)), .ref o1, .ref o2])), (o1, .inr (1, [.int (zI (f 6)), .int (zI (f 8)), .int (zI (f 10))])), (o2, .inr (1, [.int (zI (f 7)), .int (zI (f 9)), .int (zI (f 11))]))]) rfl ?_
  exact hv_vret C M dX1_becomes_70 rfl () trivial rfl [] (List.Perm.of_eq (by first | rfl | exact (List.append_nil _).symm)) (Nat.le_refl _) (Nat.le_refl _)

set_option maxHeartbeats 4000000 in
set_option maxRecDepth 100000 in
theorem k_X1_hasGardener (l : Launch) (D : va_G) (dA : Nat → ClassId) (z : Int) (hz : -2147483648 ≤ z ∧ z < 2147483648) : hv_Ct l yX1_hasGardener (hw_W yX1_hasGardener cX1_hasGardener 1 (some .boolean)) 0 D dA [.int (zI (z))] ([]) 0 0 (S := Unit) (fun _ => some (.int (zI (zB (decide (z = 0 ∨ z = 1)))))) (fun _ => True) (fun _ => []) := by
  refine hv_of (cc := cX1_hasGardener) (maxL := 1) (ret := (some .boolean)) (own := RX1) rfl (by decide) rfl (Nat.le_of_ble_eq_true rfl) ?_
  intro p e s m args below meth c C M
  refine hv_lveq (lv' := [(0, .int (zI (z)))]) rfl ?_
  refine hv_iload_n C dX1_hasGardener_0 0 rfl ?_
  refine hv_if_eq C dX1_hasGardener_1 (tgt := 9) (by decide) (zI_eq0 (by omega)) (fun hc1 => ?_) (fun hc1 => ?_)
  · refine hv_iconst C dX1_hasGardener_9 (v := zI (1)) rfl ?_
    refine hv_goto C dX1_hasGardener_10 (tgt := 14) (by decide) ?_
    exact hv_iret C M dX1_hasGardener_14 rfl zB_n1 () trivial (hv_rv (zB_T (by omega))) [] (List.Perm.of_eq (by first | rfl | exact (List.append_nil _).symm)) (Nat.le_refl _) (Nat.le_refl _)
  · refine hv_iload_n C dX1_hasGardener_4 0 rfl ?_
    refine hv_iconst C dX1_hasGardener_5 (v := zI (1)) rfl ?_
    refine hv_icmp_ne C dX1_hasGardener_6 (tgt := 13) (by decide) (zI_ne (by omega)) (fun hc6 => ?_) (fun hc6 => ?_)
    · refine hv_iconst C dX1_hasGardener_13 (v := zI (0)) rfl ?_
      exact hv_iret C M dX1_hasGardener_14 rfl zB_n2 () trivial (hv_rv (zB_F (by omega))) [] (List.Perm.of_eq (by first | rfl | exact (List.append_nil _).symm)) (Nat.le_refl _) (Nat.le_refl _)
    · refine hv_iconst C dX1_hasGardener_9 (v := zI (1)) rfl ?_
      refine hv_goto C dX1_hasGardener_10 (tgt := 14) (by decide) ?_
      exact hv_iret C M dX1_hasGardener_14 rfl zB_n1 () trivial (hv_rv (zB_T (by omega))) [] (List.Perm.of_eq (by first | rfl | exact (List.append_nil _).symm)) (Nat.le_refl _) (Nat.le_refl _)

set_option maxHeartbeats 4000000 in
set_option maxRecDepth 100000 in
theorem k_X1_isWind (l : Launch) (D : va_G) (dA : Nat → ClassId) (z : Int) (hz : -2147483648 ≤ z ∧ z < 2147483648) : hv_Ct l yX1_isWind (hw_W yX1_isWind cX1_isWind 1 (some .boolean)) 0 D dA [.int (zI (z))] ([]) 0 0 (S := Unit) (fun _ => some (.int (zI (zB (decide (0 ≤ z ∧ z < 3)))))) (fun _ => True) (fun _ => []) := by
  refine hv_of (cc := cX1_isWind) (maxL := 1) (ret := (some .boolean)) (own := RX1) rfl (by decide) rfl (Nat.le_of_ble_eq_true rfl) ?_
  intro p e s m args below meth c C M
  refine hv_lveq (lv' := [(0, .int (zI (z)))]) rfl ?_
  refine hv_iload_n C dX1_isWind_0 0 rfl ?_
  refine hv_if_lt C dX1_isWind_1 (tgt := 13) (by decide) (zI_lt0 (by omega)) (fun hc1 => ?_) (fun hc1 => ?_)
  · refine hv_iconst C dX1_isWind_13 (v := zI (0)) rfl ?_
    exact hv_iret C M dX1_isWind_14 rfl zB_n2 () trivial (hv_rv (zB_F (by omega))) [] (List.Perm.of_eq (by first | rfl | exact (List.append_nil _).symm)) (Nat.le_refl _) (Nat.le_refl _)
  · refine hv_iload_n C dX1_isWind_4 0 rfl ?_
    refine hv_iconst C dX1_isWind_5 (v := zI (3)) rfl ?_
    refine hv_icmp_ge C dX1_isWind_6 (tgt := 13) (by decide) (zI_le (by omega)) (fun hc6 => ?_) (fun hc6 => ?_)
    · refine hv_iconst C dX1_isWind_13 (v := zI (0)) rfl ?_
      exact hv_iret C M dX1_isWind_14 rfl zB_n2 () trivial (hv_rv (zB_F (by omega))) [] (List.Perm.of_eq (by first | rfl | exact (List.append_nil _).symm)) (Nat.le_refl _) (Nat.le_refl _)
    · refine hv_iconst C dX1_isWind_9 (v := zI (1)) rfl ?_
      refine hv_goto C dX1_isWind_10 (tgt := 14) (by decide) ?_
      exact hv_iret C M dX1_isWind_14 rfl zB_n1 () trivial (hv_rv (zB_T (by omega))) [] (List.Perm.of_eq (by first | rfl | exact (List.append_nil _).symm)) (Nat.le_refl _) (Nat.le_refl _)

set_option maxHeartbeats 4000000 in
set_option maxRecDepth 100000 in
theorem k_X1_who0 (l : Launch) (D : va_G) (dA : Nat → ClassId) (h0 h1 h2 : Nat) (g : Nat → Int) (z : Int) (hz : z = 0) : hv_Ct l yX1_who (hw_W yX1_who cX1_who 2 (some (.object "HedgeClips$Gardener"))) 0 D dA [.ref h0, .int (zI (z))] ([(h0, .inr (0, [.int (zI (g 0)), .int (zI (g 1)), .int (zI (g 2)), .int (zI (g 3)), .int (zI (g 4)), .int (zI (g 5)), .ref h1, .ref h2])), (h1, .inr (1, [.int (zI (g 6)), .int (zI (g 8)), .int (zI (g 10))])), (h2, .inr (1, [.int (zI (g 7)), .int (zI (g 9)), .int (zI (g 11))]))]) 0 0 (S := Unit) (fun _ => some (.ref h1)) (fun _ => True) (fun _ => [(h0, .inr (0, [.int (zI (g 0)), .int (zI (g 1)), .int (zI (g 2)), .int (zI (g 3)), .int (zI (g 4)), .int (zI (g 5)), .ref h1, .ref h2])), (h1, .inr (1, [.int (zI (g 6)), .int (zI (g 8)), .int (zI (g 10))])), (h2, .inr (1, [.int (zI (g 7)), .int (zI (g 9)), .int (zI (g 11))]))]) := by
  refine hv_of (cc := cX1_who) (maxL := 2) (ret := (some (.object "HedgeClips$Gardener"))) (own := RX1) rfl (by decide) rfl (Nat.le_of_ble_eq_true rfl) ?_
  intro p e s m args below meth c C M
  refine hv_lveq (lv' := [(0, .ref h0), (1, .int (zI (z)))]) rfl ?_
  refine hv_iload_n C dX1_who_0 1 rfl ?_
  try simp only [] at hz
  refine hv_if_ne C dX1_who_1 (tgt := 11) (by decide) (zI_ne0 (by omega)) (fun hc1 => ?_) (fun hc1 => ?_)
  · exact absurd hc1 (by omega)
  · refine hv_aload_n C dX1_who_4 0 rfl ?_
    refine hv_get C dX1_who_5 (fun w h => hw_c (tw_u_1 w h)) 0 (ci := 0) rfl rfl 6 (by decide) (hw_c tw_f_RX1_12) rfl ?_
    refine hv_goto C dX1_who_8 (tgt := 15) (by decide) ?_
    exact hv_aret C M dX1_who_15 rfl (Or.inl ⟨_, rfl⟩) () trivial rfl [] (List.Perm.of_eq (by first | rfl | exact (List.append_nil _).symm)) (Nat.le_refl _) (Nat.le_refl _)

set_option maxHeartbeats 4000000 in
set_option maxRecDepth 100000 in
theorem k_X1_who1 (l : Launch) (D : va_G) (dA : Nat → ClassId) (h0 h1 h2 : Nat) (g : Nat → Int) (z : Int) (hz : ¬ z = 0) (hr : -2147483648 ≤ z ∧ z < 2147483648) : hv_Ct l yX1_who (hw_W yX1_who cX1_who 2 (some (.object "HedgeClips$Gardener"))) 0 D dA [.ref h0, .int (zI (z))] ([(h0, .inr (0, [.int (zI (g 0)), .int (zI (g 1)), .int (zI (g 2)), .int (zI (g 3)), .int (zI (g 4)), .int (zI (g 5)), .ref h1, .ref h2])), (h1, .inr (1, [.int (zI (g 6)), .int (zI (g 8)), .int (zI (g 10))])), (h2, .inr (1, [.int (zI (g 7)), .int (zI (g 9)), .int (zI (g 11))]))]) 0 0 (S := Unit) (fun _ => some (.ref h2)) (fun _ => True) (fun _ => [(h0, .inr (0, [.int (zI (g 0)), .int (zI (g 1)), .int (zI (g 2)), .int (zI (g 3)), .int (zI (g 4)), .int (zI (g 5)), .ref h1, .ref h2])), (h1, .inr (1, [.int (zI (g 6)), .int (zI (g 8)), .int (zI (g 10))])), (h2, .inr (1, [.int (zI (g 7)), .int (zI (g 9)), .int (zI (g 11))]))]) := by
  refine hv_of (cc := cX1_who) (maxL := 2) (ret := (some (.object "HedgeClips$Gardener"))) (own := RX1) rfl (by decide) rfl (Nat.le_of_ble_eq_true rfl) ?_
  intro p e s m args below meth c C M
  refine hv_lveq (lv' := [(0, .ref h0), (1, .int (zI (z)))]) rfl ?_
  refine hv_iload_n C dX1_who_0 1 rfl ?_
  refine hv_if_ne C dX1_who_1 (tgt := 11) (by decide) (zI_ne0 (by omega)) (fun hc1 => ?_) (fun hc1 => ?_)
  · refine hv_aload_n C dX1_who_11 0 rfl ?_
    refine hv_get C dX1_who_12 (fun w h => hw_c (tw_u_1 w h)) 0 (ci := 0) rfl rfl 7 (by decide) (hw_c tw_f_RX1_18) rfl ?_
    exact hv_aret C M dX1_who_15 rfl (Or.inl ⟨_, rfl⟩) () trivial rfl [] (List.Perm.of_eq (by first | rfl | exact (List.append_nil _).symm)) (Nat.le_refl _) (Nat.le_refl _)
  · exact absurd hc1 (by omega)

set_option maxHeartbeats 4000000 in
set_option maxRecDepth 100000 in
theorem k_X1_hasStem (l : Launch) (D : va_G) (dA : Nat → ClassId) (h0 h1 h2 : Nat) (g : Nat → Int) (z : Int) (hg0 : 0 ≤ g 0 ∧ g 0 < 1000) (hz : -2147483648 ≤ z ∧ z < 2147483648) : hv_Ct l yX1_hasStem (hw_W yX1_hasStem cX1_hasStem 2 (some .boolean)) 0 D dA [.ref h0, .int (zI (z))] ([(h0, .inr (0, [.int (zI (g 0)), .int (zI (g 1)), .int (zI (g 2)), .int (zI (g 3)), .int (zI (g 4)), .int (zI (g 5)), .ref h1, .ref h2])), (h1, .inr (1, [.int (zI (g 6)), .int (zI (g 8)), .int (zI (g 10))])), (h2, .inr (1, [.int (zI (g 7)), .int (zI (g 9)), .int (zI (g 11))]))]) 0 0 (S := Unit) (fun _ => some (.int (zI (zB (decide (0 ≤ z ∧ z < g 0)))))) (fun _ => True) (fun _ => [(h0, .inr (0, [.int (zI (g 0)), .int (zI (g 1)), .int (zI (g 2)), .int (zI (g 3)), .int (zI (g 4)), .int (zI (g 5)), .ref h1, .ref h2])), (h1, .inr (1, [.int (zI (g 6)), .int (zI (g 8)), .int (zI (g 10))])), (h2, .inr (1, [.int (zI (g 7)), .int (zI (g 9)), .int (zI (g 11))]))]) := by
  refine hv_of (cc := cX1_hasStem) (maxL := 2) (ret := (some .boolean)) (own := RX1) rfl (by decide) rfl (Nat.le_of_ble_eq_true rfl) ?_
  intro p e s m args below meth c C M
  refine hv_lveq (lv' := [(0, .ref h0), (1, .int (zI (z)))]) rfl ?_
  refine hv_iload_n C dX1_hasStem_0 1 rfl ?_
  refine hv_if_lt C dX1_hasStem_1 (tgt := 16) (by decide) (zI_lt0 (by omega)) (fun hc1 => ?_) (fun hc1 => ?_)
  · refine hv_iconst C dX1_hasStem_16 (v := zI (0)) rfl ?_
    exact hv_iret C M dX1_hasStem_17 rfl zB_n2 () trivial (hv_rv (zB_F (by omega))) [] (List.Perm.of_eq (by first | rfl | exact (List.append_nil _).symm)) (Nat.le_refl _) (Nat.le_refl _)
  · refine hv_iload_n C dX1_hasStem_4 1 rfl ?_
    refine hv_aload_n C dX1_hasStem_5 0 rfl ?_
    refine hv_get C dX1_hasStem_6 (fun w h => hw_c (tw_u_1 w h)) 0 (ci := 0) rfl rfl 0 (by decide) (hw_c tw_f_RX1_38) rfl ?_
    refine hv_icmp_ge C dX1_hasStem_9 (tgt := 16) (by decide) (zI_le (by omega)) (fun hc9 => ?_) (fun hc9 => ?_)
    · refine hv_iconst C dX1_hasStem_16 (v := zI (0)) rfl ?_
      exact hv_iret C M dX1_hasStem_17 rfl zB_n2 () trivial (hv_rv (zB_F (by omega))) [] (List.Perm.of_eq (by first | rfl | exact (List.append_nil _).symm)) (Nat.le_refl _) (Nat.le_refl _)
    · refine hv_iconst C dX1_hasStem_12 (v := zI (1)) rfl ?_
      refine hv_goto C dX1_hasStem_13 (tgt := 17) (by decide) ?_
      exact hv_iret C M dX1_hasStem_17 rfl zB_n1 () trivial (hv_rv (zB_T (by omega))) [] (List.Perm.of_eq (by first | rfl | exact (List.append_nil _).symm)) (Nat.le_refl _) (Nat.le_refl _)

set_option maxHeartbeats 4000000 in
set_option maxRecDepth 100000 in
theorem k_X1_allowsClip (l : Launch) (D : va_G) (dA : Nat → ClassId) (h0 h1 h2 : Nat) (g : Nat → Int) (a b k : Int) (hg5 : 0 ≤ g 5 ∧ g 5 < 1000) (ha : 0 ≤ a ∧ a < 1000) (hb : 0 ≤ b ∧ b < 1000) (hk : -2147483648 ≤ k ∧ k < 2147483648) : hv_Ct l yX1_allowsClip (hw_W yX1_allowsClip cX1_allowsClip 4 (some .boolean)) 0 D dA [.ref h0, .int (zI (a)), .int (zI (b)), .int (zI (k))] ([(h0, .inr (0, [.int (zI (g 0)), .int (zI (g 1)), .int (zI (g 2)), .int (zI (g 3)), .int (zI (g 4)), .int (zI (g 5)), .ref h1, .ref h2])), (h1, .inr (1, [.int (zI (g 6)), .int (zI (g 8)), .int (zI (g 10))])), (h2, .inr (1, [.int (zI (g 7)), .int (zI (g 9)), .int (zI (g 11))]))]) 0 0 (S := Unit) (fun _ => some (.int (zI (zB (decide (1 ≤ k ∧ k ≤ 3 ∧ a ≤ b ∧ b - a < g 5)))))) (fun _ => True) (fun _ => [(h0, .inr (0, [.int (zI (g 0)), .int (zI (g 1)), .int (zI (g 2)), .int (zI (g 3)), .int (zI (g 4)), .int (zI (g 5)), .ref h1, .ref h2])), (h1, .inr (1, [.int (zI (g 6)), .int (zI (g 8)), .int (zI (g 10))])), (h2, .inr (1, [.int (zI (g 7)), .int (zI (g 9)), .int (zI (g 11))]))]) := by
  refine hv_of (cc := cX1_allowsClip) (maxL := 4) (ret := (some .boolean)) (own := RX1) rfl (by decide) rfl (Nat.le_of_ble_eq_true rfl) ?_
  intro p e s m args below meth c C M
  refine hv_lveq (lv' := [(0, .ref h0), (1, .int (zI (a))), (2, .int (zI (b))), (3, .int (zI (k)))]) rfl ?_
  refine hv_iload_n C dX1_allowsClip_0 3 rfl ?_
  refine hv_iconst C dX1_allowsClip_1 (v := zI (1)) rfl ?_
  refine hv_icmp_lt C dX1_allowsClip_2 (tgt := 29) (by decide) (zI_lt (by omega)) (fun hc2 => ?_) (fun hc2 => ?_)
  · refine hv_iconst C dX1_allowsClip_29 (v := zI (0)) rfl ?_
    exact hv_iret C M dX1_allowsClip_30 rfl zB_n2 () trivial (hv_rv (zB_F (by omega))) [] (List.Perm.of_eq (by first | rfl | exact (List.append_nil _).symm)) (Nat.le_refl _) (Nat.le_refl _)
  · refine hv_iload_n C dX1_allowsClip_5 3 rfl ?_
    refine hv_iconst C dX1_allowsClip_6 (v := zI (3)) rfl ?_
    refine hv_icmp_gt C dX1_allowsClip_7 (tgt := 29) (by decide) (zI_lt (by omega)) (fun hc7 => ?_) (fun hc7 => ?_)
    · refine hv_iconst C dX1_allowsClip_29 (v := zI (0)) rfl ?_
      exact hv_iret C M dX1_allowsClip_30 rfl zB_n2 () trivial (hv_rv (zB_F (by omega))) [] (List.Perm.of_eq (by first | rfl | exact (List.append_nil _).symm)) (Nat.le_refl _) (Nat.le_refl _)
    · refine hv_iload_n C dX1_allowsClip_10 2 rfl ?_
      refine hv_iload_n C dX1_allowsClip_11 1 rfl ?_
      refine hv_icmp_lt C dX1_allowsClip_12 (tgt := 29) (by decide) (zI_lt (by omega)) (fun hc12 => ?_) (fun hc12 => ?_)
      · refine hv_iconst C dX1_allowsClip_29 (v := zI (0)) rfl ?_
        exact hv_iret C M dX1_allowsClip_30 rfl zB_n2 () trivial (hv_rv (zB_F (by omega))) [] (List.Perm.of_eq (by first | rfl | exact (List.append_nil _).symm)) (Nat.le_refl _) (Nat.le_refl _)
      · refine hv_iload_n C dX1_allowsClip_15 2 rfl ?_
        refine hv_iload_n C dX1_allowsClip_16 1 rfl ?_
        refine hv_isub C dX1_allowsClip_17 (zI_sub _ _) ?_
        refine hv_aload_n C dX1_allowsClip_18 0 rfl ?_
        refine hv_get C dX1_allowsClip_19 (fun w h => hw_c (tw_u_1 w h)) 0 (ci := 0) rfl rfl 5 (by decide) (hw_c tw_f_RX1_32) rfl ?_
        refine hv_icmp_ge C dX1_allowsClip_22 (tgt := 29) (by decide) (zI_le (by omega)) (fun hc22 => ?_) (fun hc22 => ?_)
        · refine hv_iconst C dX1_allowsClip_29 (v := zI (0)) rfl ?_
          exact hv_iret C M dX1_allowsClip_30 rfl zB_n2 () trivial (hv_rv (zB_F (by omega))) [] (List.Perm.of_eq (by first | rfl | exact (List.append_nil _).symm)) (Nat.le_refl _) (Nat.le_refl _)
        · refine hv_iconst C dX1_allowsClip_25 (v := zI (1)) rfl ?_
          refine hv_goto C dX1_allowsClip_26 (tgt := 30) (by decide) ?_
          exact hv_iret C M dX1_allowsClip_30 rfl zB_n1 () trivial (hv_rv (zB_T (by omega))) [] (List.Perm.of_eq (by first | rfl | exact (List.append_nil _).symm)) (Nat.le_refl _) (Nat.le_refl _)

set_option maxHeartbeats 4000000 in
set_option maxRecDepth 100000 in
theorem k_X1_isOver (l : Launch) (D : va_G) (dA : Nat → ClassId) (h0 h1 h2 : Nat) (g : Nat → Int) (hg1 : 0 ≤ g 1 ∧ g 1 < 10000) : hv_Ct l yX1_isOver (hw_W yX1_isOver cX1_isOver 1 (some .boolean)) 0 D dA [.ref h0] ([(h0, .inr (0, [.int (zI (g 0)), .int (zI (g 1)), .int (zI (g 2)), .int (zI (g 3)), .int (zI (g 4)), .int (zI (g 5)), .ref h1, .ref h2])), (h1, .inr (1, [.int (zI (g 6)), .int (zI (g 8)), .int (zI (g 10))])), (h2, .inr (1, [.int (zI (g 7)), .int (zI (g 9)), .int (zI (g 11))]))]) 0 0 (S := Unit) (fun _ => some (.int (zI (zB (decide (g 1 = 0)))))) (fun _ => True) (fun _ => [(h0, .inr (0, [.int (zI (g 0)), .int (zI (g 1)), .int (zI (g 2)), .int (zI (g 3)), .int (zI (g 4)), .int (zI (g 5)), .ref h1, .ref h2])), (h1, .inr (1, [.int (zI (g 6)), .int (zI (g 8)), .int (zI (g 10))])), (h2, .inr (1, [.int (zI (g 7)), .int (zI (g 9)), .int (zI (g 11))]))]) := by
  refine hv_of (cc := cX1_isOver) (maxL := 1) (ret := (some .boolean)) (own := RX1) rfl (by decide) rfl (Nat.le_of_ble_eq_true rfl) ?_
  intro p e s m args below meth c C M
  refine hv_lveq (lv' := [(0, .ref h0)]) rfl ?_
  refine hv_aload_n C dX1_isOver_0 0 rfl ?_
  refine hv_get C dX1_isOver_1 (fun w h => hw_c (tw_u_1 w h)) 0 (ci := 0) rfl rfl 1 (by decide) (hw_c tw_f_RX1_41) rfl ?_
  refine hv_if_ne C dX1_isOver_4 (tgt := 11) (by decide) (zI_ne0 (by omega)) (fun hc4 => ?_) (fun hc4 => ?_)
  · refine hv_iconst C dX1_isOver_11 (v := zI (0)) rfl ?_
    exact hv_iret C M dX1_isOver_12 rfl zB_n2 () trivial (hv_rv (zB_F (by omega))) [] (List.Perm.of_eq (by first | rfl | exact (List.append_nil _).symm)) (Nat.le_refl _) (Nat.le_refl _)
  · refine hv_iconst C dX1_isOver_7 (v := zI (1)) rfl ?_
    refine hv_goto C dX1_isOver_8 (tgt := 12) (by decide) ?_
    exact hv_iret C M dX1_isOver_12 rfl zB_n1 () trivial (hv_rv (zB_T (by omega))) [] (List.Perm.of_eq (by first | rfl | exact (List.append_nil _).symm)) (Nat.le_refl _) (Nat.le_refl _)

set_option maxHeartbeats 4000000 in
set_option maxRecDepth 100000 in
theorem k_X1_allClips (l : Launch) (D : va_G) (dA : Nat → ClassId) (h0 h1 h2 : Nat) (g : Nat → Int) : hv_Ct l yX1_allClips (hw_W yX1_allClips cX1_allClips 1 (some .int)) 0 D dA [.ref h0] ([(h0, .inr (0, [.int (zI (g 0)), .int (zI (g 1)), .int (zI (g 2)), .int (zI (g 3)), .int (zI (g 4)), .int (zI (g 5)), .ref h1, .ref h2])), (h1, .inr (1, [.int (zI (g 6)), .int (zI (g 8)), .int (zI (g 10))])), (h2, .inr (1, [.int (zI (g 7)), .int (zI (g 9)), .int (zI (g 11))]))]) 0 0 (S := Unit) (fun _ => some (.int (zI (g 8 + g 9)))) (fun _ => True) (fun _ => [(h0, .inr (0, [.int (zI (g 0)), .int (zI (g 1)), .int (zI (g 2)), .int (zI (g 3)), .int (zI (g 4)), .int (zI (g 5)), .ref h1, .ref h2])), (h1, .inr (1, [.int (zI (g 6)), .int (zI (g 8)), .int (zI (g 10))])), (h2, .inr (1, [.int (zI (g 7)), .int (zI (g 9)), .int (zI (g 11))]))]) := by
  refine hv_of (cc := cX1_allClips) (maxL := 1) (ret := (some .int)) (own := RX1) rfl (by decide) rfl (Nat.le_of_ble_eq_true rfl) ?_
  intro p e s m args below meth c C M
  refine hv_lveq (lv' := [(0, .ref h0)]) rfl ?_
  refine hv_aload_n C dX1_allClips_0 0 rfl ?_
  refine hv_get C dX1_allClips_1 (fun w h => hw_c (tw_u_1 w h)) 0 (ci := 0) rfl rfl 6 (by decide) (hw_c tw_f_RX1_12) rfl ?_
  refine hv_getN C dX1_allClips_4 (fun w h => hw_c (tw_u_2 w h)) 1 (ci := 1) rfl rfl 1 (by decide) tw_fn_RX1_53 rfl ?_
  refine hv_aload_n C dX1_allClips_7 0 rfl ?_
  refine hv_get C dX1_allClips_8 (fun w h => hw_c (tw_u_1 w h)) 0 (ci := 0) rfl rfl 7 (by decide) (hw_c tw_f_RX1_18) rfl ?_
  refine hv_getN C dX1_allClips_11 (fun w h => hw_c (tw_u_2 w h)) 2 (ci := 1) rfl rfl 1 (by decide) tw_fn_RX1_53 rfl ?_
  refine hv_iadd C dX1_allClips_14 (zI_add _ _) ?_
  exact hv_iret C M dX1_allClips_15 rfl rfl () trivial (hv_rv (by omega)) [] (List.Perm.of_eq (by first | rfl | exact (List.append_nil _).symm)) (Nat.le_refl _) (Nat.le_refl _)

set_option maxHeartbeats 4000000 in
set_option maxRecDepth 100000 in
theorem k_X1_allFines (l : Launch) (D : va_G) (dA : Nat → ClassId) (h0 h1 h2 : Nat) (g : Nat → Int) : hv_Ct l yX1_allFines (hw_W yX1_allFines cX1_allFines 1 (some .int)) 0 D dA [.ref h0] ([(h0, .inr (0, [.int (zI (g 0)), .int (zI (g 1)), .int (zI (g 2)), .int (zI (g 3)), .int (zI (g 4)), .int (zI (g 5)), .ref h1, .ref h2])), (h1, .inr (1, [.int (zI (g 6)), .int (zI (g 8)), .int (zI (g 10))])), (h2, .inr (1, [.int (zI (g 7)), .int (zI (g 9)), .int (zI (g 11))]))]) 0 0 (S := Unit) (fun _ => some (.int (zI (g 6 + g 7)))) (fun _ => True) (fun _ => [(h0, .inr (0, [.int (zI (g 0)), .int (zI (g 1)), .int (zI (g 2)), .int (zI (g 3)), .int (zI (g 4)), .int (zI (g 5)), .ref h1, .ref h2])), (h1, .inr (1, [.int (zI (g 6)), .int (zI (g 8)), .int (zI (g 10))])), (h2, .inr (1, [.int (zI (g 7)), .int (zI (g 9)), .int (zI (g 11))]))]) := by
  refine hv_of (cc := cX1_allFines) (maxL := 1) (ret := (some .int)) (own := RX1) rfl (by decide) rfl (Nat.le_of_ble_eq_true rfl) ?_
  intro p e s m args below meth c C M
  refine hv_lveq (lv' := [(0, .ref h0)]) rfl ?_
  refine hv_aload_n C dX1_allFines_0 0 rfl ?_
  refine hv_get C dX1_allFines_1 (fun w h => hw_c (tw_u_1 w h)) 0 (ci := 0) rfl rfl 6 (by decide) (hw_c tw_f_RX1_12) rfl ?_
  refine hv_getN C dX1_allFines_4 (fun w h => hw_c (tw_u_2 w h)) 1 (ci := 1) rfl rfl 0 (by decide) tw_fn_RX1_56 rfl ?_
  refine hv_aload_n C dX1_allFines_7 0 rfl ?_
  refine hv_get C dX1_allFines_8 (fun w h => hw_c (tw_u_1 w h)) 0 (ci := 0) rfl rfl 7 (by decide) (hw_c tw_f_RX1_18) rfl ?_
  refine hv_getN C dX1_allFines_11 (fun w h => hw_c (tw_u_2 w h)) 2 (ci := 1) rfl rfl 0 (by decide) tw_fn_RX1_56 rfl ?_
  refine hv_iadd C dX1_allFines_14 (zI_add _ _) ?_
  exact hv_iret C M dX1_allFines_15 rfl rfl () trivial (hv_rv (by omega)) [] (List.Perm.of_eq (by first | rfl | exact (List.append_nil _).symm)) (Nat.le_refl _) (Nat.le_refl _)

set_option maxHeartbeats 4000000 in
set_option maxRecDepth 100000 in
theorem k_X1_turnOver (l : Launch) (D : va_G) (dA : Nat → ClassId) (h0 h1 h2 : Nat) (g : Nat → Int) : hv_Ct l yX1_turnOver (hw_W yX1_turnOver cX1_turnOver 1 none) 0 D dA [.ref h0] ([(h0, .inr (0, [.int (zI (g 0)), .int (zI (g 1)), .int (zI (g 2)), .int (zI (g 3)), .int (zI (g 4)), .int (zI (g 5)), .ref h1, .ref h2])), (h1, .inr (1, [.int (zI (g 6)), .int (zI (g 8)), .int (zI (g 10))])), (h2, .inr (1, [.int (zI (g 7)), .int (zI (g 9)), .int (zI (g 11))]))]) 0 0 (S := Unit) (fun _ => none) (fun _ => True) (fun _ => G3 h0 h1 h2 (sp_set g 3 (1 - g 3))) := by
  refine hv_of (cc := cX1_turnOver) (maxL := 1) (ret := none) (own := RX1) rfl (by decide) rfl (Nat.le_of_ble_eq_true rfl) ?_
  intro p e s m args below meth c C M
  refine hv_lveq (lv' := [(0, .ref h0)]) rfl ?_
  refine hv_aload_n C dX1_turnOver_0 0 rfl ?_
  refine hv_iconst C dX1_turnOver_1 (v := zI (1)) rfl ?_
  refine hv_aload_n C dX1_turnOver_2 0 rfl ?_
  refine hv_get C dX1_turnOver_3 (fun w h => hw_c (tw_u_1 w h)) 0 (ci := 0) rfl rfl 3 (by decide) (hw_c tw_f_RX1_44) rfl ?_
  refine hv_isub C dX1_turnOver_6 (zI_sub _ _) ?_
  refine hv_put C dX1_turnOver_7 (fun w h => hw_c (tw_u_1 w h)) tyX1 tyX1_ok nmX1 0 (ci := 0) (ty := .int) rfl rfl 3 (by decide) (hw_c tw_f_RX1_44) rfl rfl rfl rfl (Nat.le_of_ble_eq_true rfl) ?_
  refine hv_weq (ws' := [(h0, .inr (0, [.int (zI (g 0)), .int (zI (g 1)), .int (zI (g 2)), .int (zI ((1) - (g 3))), .int (zI (g 4)), .int (zI (g 5)), .ref h1, .ref h2])), (h1, .inr (1, [.int (zI (g 6)), .int (zI (g 8)), .int (zI (g 10))])), (h2, .inr (1, [.int (zI (g 7)), .int (zI (g 9)), .int (zI (g 11))]))]) rfl ?_
  exact hv_vret C M dX1_turnOver_10 rfl () trivial rfl [] (List.Perm.of_eq (by simp [G3, sp_set])) (Nat.le_refl _) (Nat.le_refl _)

set_option maxHeartbeats 4000000 in
set_option maxRecDepth 100000 in
theorem k_X1_doClip (l : Launch) (D : va_G) (dA : Nat → ClassId) (h0 h1 h2 : Nat) (g : Nat → Int) (S h w t : Nat) (eS : g 0 = (S : Int)) (hS : 2 ≤ S ∧ S ≤ 6) (eh : g 1 = (h : Int)) (hh : h < 4 ^ S) (ew : g 2 = (w : Int)) (hw : w < 3) (et : g 3 = (t : Int)) (ht : t < 2) {zc : Int} (c9 : Nat) (ec : zc = (c9 : Int)) (hc : c9 / 100 ≤ c9 / 10 % 10 ∧ c9 / 10 % 10 < 6 ∧ c9 % 10 < 4) : hv_Ct l yX1_doClip (hw_W yX1_doClip cX1_doClip 5 (some .int)) 2 D dA [.ref h0, .int (zI (zc))] ([(h0, .inr (0, [.int (zI (g 0)), .int (zI (g 1)), .int (zI (g 2)), .int (zI (g 3)), .int (zI (g 4)), .int (zI (g 5)), .ref h1, .ref h2])), (h1, .inr (1, [.int (zI (g 6)), .int (zI (g 8)), .int (zI (g 10))])), (h2, .inr (1, [.int (zI (g 7)), .int (zI (g 9)), .int (zI (g 11))]))]) 0 0 (S := Unit) (fun _ => some (.int (zI (sp_fi g h (sp_bh S w h c9))))) (fun _ => True) (fun _ => G3 h0 h1 h2 (sp_do g h (sp_bh S w h c9))) := by
  subst ec
  have hx : h < 4096 := sp_hlt hS.2 hh
  refine hv_of (cc := cX1_doClip) (maxL := 5) (ret := (some .int)) (own := RX1) rfl (by decide) rfl (Nat.le_of_ble_eq_true rfl) ?_
  intro p e s m args below meth c C M
  refine hv_lveq (lv' := [(0, .ref h0), (1, .int (zI ((c9 : Int))))]) rfl ?_
  refine hv_aload_n C dX1_doClip_0 0 rfl ?_
  refine hv_get C dX1_doClip_1 (fun w h => hw_c (tw_u_1 w h)) 0 (ci := 0) rfl rfl 1 (by decide) (hw_c tw_f_RX1_41) rfl ?_
  refine hv_iload_n C dX1_doClip_4 1 rfl ?_
  refine hv_callS (As := [.int (zI (g 1)), .int (zI ((c9 : Int)))]) (rest := []) (wc := []) (wr := [(h0, .inr (0, [.int (zI (g 0)), .int (zI (g 1)), .int (zI (g 2)), .int (zI (g 3)), .int (zI (g 4)), .int (zI (g 5)), .ref h1, .ref h2])), (h1, .inr (1, [.int (zI (g 6)), .int (zI (g 8)), .int (zI (g 10))])), (h2, .inr (1, [.int (zI (g 7)), .int (zI (g 9)), .int (zI (g 11))]))]) C (k_X3_clipped l D dA (h) (c9) (by omega) (by omega) (by omega) (by omega)) (va_cwS 2 C.1.2.2.2.2 (hw_S tw_m_RX1_59 tw_t_X3_clipped tw_n_RX3 tw_k_X3_clipped) rfl rfl rfl (by decide +kernel) ⟨Nat.le_of_ble_eq_true rfl, Nat.le_of_ble_eq_true rfl⟩) (hv_pm [] rfl) rfl rfl (Nat.le_of_ble_eq_true rfl) dX1_doClip_5 ⟨Nat.le_of_ble_eq_true rfl, Nat.le_of_ble_eq_true rfl⟩ (fun _ _ => ?_)
  refine hv_eqst (st' := [.int (zI ((sp_cc (h) (c9) : Int)))]) rfl ?_
  refine hv_weq (ws' := [(h0, .inr (0, [.int (zI (g 0)), .int (zI (g 1)), .int (zI (g 2)), .int (zI (g 3)), .int (zI (g 4)), .int (zI (g 5)), .ref h1, .ref h2])), (h1, .inr (1, [.int (zI (g 6)), .int (zI (g 8)), .int (zI (g 10))])), (h2, .inr (1, [.int (zI (g 7)), .int (zI (g 9)), .int (zI (g 11))]))]) (rfl) ?_
  refine hv_aload_n C dX1_doClip_8 0 rfl ?_
  refine hv_get C dX1_doClip_9 (fun w h => hw_c (tw_u_1 w h)) 0 (ci := 0) rfl rfl 0 (by decide) (hw_c tw_f_RX1_38) rfl ?_
  refine hv_aload_n C dX1_doClip_12 0 rfl ?_
  refine hv_get C dX1_doClip_13 (fun w h => hw_c (tw_u_1 w h)) 0 (ci := 0) rfl rfl 2 (by decide) (hw_c tw_f_RX1_25) rfl ?_
  refine hv_callS (As := [.int (zI ((sp_cc (h) (c9) : Int))), .int (zI (g 0)), .int (zI (g 2))]) (rest := []) (wc := []) (wr := [(h0, .inr (0, [.int (zI (g 0)), .int (zI (g 1)), .int (zI (g 2)), .int (zI (g 3)), .int (zI (g 4)), .int (zI (g 5)), .ref h1, .ref h2])), (h1, .inr (1, [.int (zI (g 6)), .int (zI (g 8)), .int (zI (g 10))])), (h2, .inr (1, [.int (zI (g 7)), .int (zI (g 9)), .int (zI (g 11))]))]) C (k_X3_blown l D dA S w (sp_cc h c9) (by omega) (by omega) (by omega) hS hw (Nat.lt_of_le_of_lt (sp_cc_le h c9) hh) (Nat.lt_of_le_of_lt (sp_cc_le h c9) hx)) (va_cwS 3 C.1.2.2.2.2 (hw_S tw_m_RX1_65 tw_t_X3_blown tw_n_RX3 tw_k_X3_blown) rfl rfl rfl (by decide +kernel) ⟨Nat.le_of_ble_eq_true rfl, Nat.le_of_ble_eq_true rfl⟩) (hv_pm [] rfl) rfl rfl (Nat.le_of_ble_eq_true rfl) dX1_doClip_16 ⟨Nat.le_of_ble_eq_true rfl, Nat.le_of_ble_eq_true rfl⟩ (fun _ _ => ?_)
  refine hv_eqst (st' := [.int (zI (((sp_bh S w h c9) : Int)))]) rfl ?_
  refine hv_weq (ws' := [(h0, .inr (0, [.int (zI (g 0)), .int (zI (g 1)), .int (zI (g 2)), .int (zI (g 3)), .int (zI (g 4)), .int (zI (g 5)), .ref h1, .ref h2])), (h1, .inr (1, [.int (zI (g 6)), .int (zI (g 8)), .int (zI (g 10))])), (h2, .inr (1, [.int (zI (g 7)), .int (zI (g 9)), .int (zI (g 11))]))]) (rfl) ?_
  refine hv_istore_n C dX1_doClip_19 (lw := [(2, .int (zI (((sp_bh S w h c9) : Int)))), (0, .ref h0), (1, .int (zI ((c9 : Int))))]) (by decide) rfl ?_
  refine hv_aload_n C dX1_doClip_20 1 rfl ?_
  refine hv_get C dX1_doClip_21 (fun w h => hw_c (tw_u_1 w h)) 0 (ci := 0) rfl rfl 4 (by decide) (hw_c tw_f_RX1_29) rfl ?_
  refine hv_aload_n C dX1_doClip_24 1 rfl ?_
  refine hv_get C dX1_doClip_25 (fun w h => hw_c (tw_u_1 w h)) 0 (ci := 0) rfl rfl 1 (by decide) (hw_c tw_f_RX1_41) rfl ?_
  refine hv_iload_n C dX1_doClip_28 0 rfl ?_
  refine hv_callS (As := [.int (zI (g 1)), .int (zI (((sp_bh S w h c9) : Int)))]) (rest := [.int (zI (g 4))]) (wc := []) (wr := [(h0, .inr (0, [.int (zI (g 0)), .int (zI (g 1)), .int (zI (g 2)), .int (zI (g 3)), .int (zI (g 4)), .int (zI (g 5)), .ref h1, .ref h2])), (h1, .inr (1, [.int (zI (g 6)), .int (zI (g 8)), .int (zI (g 10))])), (h2, .inr (1, [.int (zI (g 7)), .int (zI (g 9)), .int (zI (g 11))]))]) C (k_X3_bared l D dA h (sp_bh S w h c9) (by omega) (by omega) hx (Nat.lt_of_le_of_lt (sp_bh_le S w h c9) hx)) (va_cwS 2 C.1.2.2.2.2 (hw_S tw_m_RX1_69 tw_t_X3_bared tw_n_RX3 tw_k_X3_bared) rfl rfl rfl (by decide +kernel) ⟨Nat.le_of_ble_eq_true rfl, Nat.le_of_ble_eq_true rfl⟩) (hv_pm [] rfl) rfl rfl (Nat.le_of_ble_eq_true rfl) dX1_doClip_29 ⟨Nat.le_of_ble_eq_true rfl, Nat.le_of_ble_eq_true rfl⟩ (fun _ _ => ?_)
  refine hv_eqst (st' := [.int (zI ((sp_lc h : Int) - (sp_lc (sp_bh S w h c9) : Int))), .int (zI (g 4))]) rfl ?_
  refine hv_weq (ws' := [(h0, .inr (0, [.int (zI (g 0)), .int (zI (g 1)), .int (zI (g 2)), .int (zI (g 3)), .int (zI (g 4)), .int (zI (g 5)), .ref h1, .ref h2])), (h1, .inr (1, [.int (zI (g 6)), .int (zI (g 8)), .int (zI (g 10))])), (h2, .inr (1, [.int (zI (g 7)), .int (zI (g 9)), .int (zI (g 11))]))]) (rfl) ?_
  refine hv_imul C dX1_doClip_32 (z := zI (sp_fi g h (sp_bh S w h c9))) ((zI_mul _ _).trans (zI_c (by rfl))) ?_
  refine hv_istore_n C dX1_doClip_33 (lw := [(3, .int (zI (sp_fi g h (sp_bh S w h c9)))), (2, .int (zI (((sp_bh S w h c9) : Int)))), (0, .ref h0), (1, .int (zI ((c9 : Int))))]) (by decide) rfl ?_
  rcases (show t = 0 ∨ t = 1 by omega) with ht0 | ht0
  · have e3 : g 3 = 0 := by omega
    refine hv_aload_n C dX1_doClip_34 2 rfl ?_
    refine hv_aload_n C dX1_doClip_35 2 rfl ?_
    refine hv_get C dX1_doClip_36 (fun w h => hw_c (tw_u_1 w h)) 0 (ci := 0) rfl rfl 3 (by decide) (hw_c tw_f_RX1_44) rfl ?_
    refine hv_callV (As := [.int (zI (g 3))]) (rest := []) (wc := [(h0, .inr (0, [.int (zI (g 0)), .int (zI (g 1)), .int (zI (g 2)), .int (zI (g 3)), .int (zI (g 4)), .int (zI (g 5)), .ref h1, .ref h2])), (h1, .inr (1, [.int (zI (g 6)), .int (zI (g 8)), .int (zI (g 10))])), (h2, .inr (1, [.int (zI (g 7)), .int (zI (g 9)), .int (zI (g 11))]))]) (wr := []) C (k_X1_who0 l D dA h0 h1 h2 g (g 3) (by omega)) (cwV 1 C.1.2.2.2.2 (hw_V tw_m_RX1_72 tw_i_X1_who tw_s_X1_who tw_n_RX1 tw_k_X1_who) rfl rfl rfl (by decide +kernel) ⟨Nat.le_of_ble_eq_true rfl, Nat.le_of_ble_eq_true rfl⟩) (hv_pm [0, 0, 0] rfl) rfl 0 0 rfl rfl rfl (Nat.le_of_ble_eq_true rfl) dX1_doClip_39 ⟨Nat.le_of_ble_eq_true rfl, Nat.le_of_ble_eq_true rfl⟩ (fun _ _ => ?_)
    refine hv_eqst (st' := [.ref h1]) rfl ?_
    refine hv_weq (ws' := [(h0, .inr (0, [.int (zI (g 0)), .int (zI (g 1)), .int (zI (g 2)), .int (zI (g 3)), .int (zI (g 4)), .int (zI (g 5)), .ref h1, .ref h2])), (h1, .inr (1, [.int (zI (g 6)), .int (zI (g 8)), .int (zI (g 10))])), (h2, .inr (1, [.int (zI (g 7)), .int (zI (g 9)), .int (zI (g 11))]))]) (rfl) ?_
    refine hv_astore C dX1_doClip_42 (lw := [(4, .ref h1), (3, .int (zI (sp_fi g h (sp_bh S w h c9)))), (2, .int (zI (((sp_bh S w h c9) : Int)))), (0, .ref h0), (1, .int (zI ((c9 : Int))))]) (by decide) rfl ?_
    refine hv_aload C dX1_doClip_44 0 rfl ?_
    refine hv_dup C dX1_doClip_46 rfl ?_
    refine hv_getN C dX1_doClip_47 (fun w h => hw_c (tw_u_2 w h)) 1 (ci := 1) rfl rfl 0 (by decide) tw_fn_RX1_56 rfl ?_
    refine hv_iload_n C dX1_doClip_50 1 rfl ?_
    refine hv_iadd C dX1_doClip_51 (zI_add _ _) ?_
    refine hv_putN C dX1_doClip_52 (fun w h => hw_c (tw_u_2 w h)) tyX2 tyX2_ok nmX2 1 (ci := 1) (ty := .int) rfl rfl 0 (by decide) tw_fn_RX1_56 rfl rfl rfl rfl (Nat.le_of_ble_eq_true rfl) ?_
    refine hv_weq (ws' := [(h0, .inr (0, [.int (zI (g 0)), .int (zI (g 1)), .int (zI (g 2)), .int (zI (g 3)), .int (zI (g 4)), .int (zI (g 5)), .ref h1, .ref h2])), (h1, .inr (1, [.int (zI ((g 6) + (sp_fi g h (sp_bh S w h c9)))), .int (zI (g 8)), .int (zI (g 10))])), (h2, .inr (1, [.int (zI (g 7)), .int (zI (g 9)), .int (zI (g 11))]))]) rfl ?_
    refine hv_aload C dX1_doClip_55 0 rfl ?_
    refine hv_dup C dX1_doClip_57 rfl ?_
    refine hv_getN C dX1_doClip_58 (fun w h => hw_c (tw_u_2 w h)) 1 (ci := 1) rfl rfl 1 (by decide) tw_fn_RX1_53 rfl ?_
    refine hv_iconst C dX1_doClip_61 (v := zI (1)) rfl ?_
    refine hv_iadd C dX1_doClip_62 (zI_add _ _) ?_
    refine hv_putN C dX1_doClip_63 (fun w h => hw_c (tw_u_2 w h)) tyX2 tyX2_ok nmX2 1 (ci := 1) (ty := .int) rfl rfl 1 (by decide) tw_fn_RX1_53 rfl rfl rfl rfl (Nat.le_of_ble_eq_true rfl) ?_
    refine hv_weq (ws' := [(h0, .inr (0, [.int (zI (g 0)), .int (zI (g 1)), .int (zI (g 2)), .int (zI (g 3)), .int (zI (g 4)), .int (zI (g 5)), .ref h1, .ref h2])), (h1, .inr (1, [.int (zI ((g 6) + (sp_fi g h (sp_bh S w h c9)))), .int (zI ((g 8) + (1))), .int (zI (g 10))])), (h2, .inr (1, [.int (zI (g 7)), .int (zI (g 9)), .int (zI (g 11))]))]) rfl ?_
    refine hv_aload C dX1_doClip_66 0 rfl ?_
    refine hv_dup C dX1_doClip_68 rfl ?_
    refine hv_getN C dX1_doClip_69 (fun w h => hw_c (tw_u_2 w h)) 1 (ci := 1) rfl rfl 2 (by decide) tw_fn_RX1_76 rfl ?_
    refine hv_aload_n C dX1_doClip_72 3 rfl ?_
    refine hv_get C dX1_doClip_73 (fun w h => hw_c (tw_u_1 w h)) 0 (ci := 0) rfl rfl 1 (by decide) (hw_c tw_f_RX1_41) rfl ?_
    refine hv_callS (As := [.int (zI (g 1))]) (rest := [.int (zI (g 10)), .ref h1]) (wc := []) (wr := [(h0, .inr (0, [.int (zI (g 0)), .int (zI (g 1)), .int (zI (g 2)), .int (zI (g 3)), .int (zI (g 4)), .int (zI (g 5)), .ref h1, .ref h2])), (h1, .inr (1, [.int (zI ((g 6) + (sp_fi g h (sp_bh S w h c9)))), .int (zI ((g 8) + (1))), .int (zI (g 10))])), (h2, .inr (1, [.int (zI (g 7)), .int (zI (g 9)), .int (zI (g 11))]))]) C (k_X3_allLeaves l D dA h (by omega) hx) (va_cwS 1 C.1.2.2.2.2 (hw_S tw_m_RX1_79 tw_t_X3_allLeaves tw_n_RX3 tw_k_X3_allLeaves) rfl rfl rfl (by decide +kernel) ⟨Nat.le_of_ble_eq_true rfl, Nat.le_of_ble_eq_true rfl⟩) (hv_pm [] rfl) rfl rfl (Nat.le_of_ble_eq_true rfl) dX1_doClip_76 ⟨Nat.le_of_ble_eq_true rfl, Nat.le_of_ble_eq_true rfl⟩ (fun _ _ => ?_)
    refine hv_eqst (st' := [.int (zI ((sp_lv h : Int))), .int (zI (g 10)), .ref h1]) rfl ?_
    refine hv_weq (ws' := [(h0, .inr (0, [.int (zI (g 0)), .int (zI (g 1)), .int (zI (g 2)), .int (zI (g 3)), .int (zI (g 4)), .int (zI (g 5)), .ref h1, .ref h2])), (h1, .inr (1, [.int (zI ((g 6) + (sp_fi g h (sp_bh S w h c9)))), .int (zI ((g 8) + (1))), .int (zI (g 10))])), (h2, .inr (1, [.int (zI (g 7)), .int (zI (g 9)), .int (zI (g 11))]))]) (rfl) ?_
    refine hv_iload_n C dX1_doClip_79 2 rfl ?_
    refine hv_callS (As := [.int (zI (((sp_bh S w h c9) : Int)))]) (rest := [.int (zI ((sp_lv h : Int))), .int (zI (g 10)), .ref h1]) (wc := []) (wr := [(h0, .inr (0, [.int (zI (g 0)), .int (zI (g 1)), .int (zI (g 2)), .int (zI (g 3)), .int (zI (g 4)), .int (zI (g 5)), .ref h1, .ref h2])), (h1, .inr (1, [.int (zI ((g 6) + (sp_fi g h (sp_bh S w h c9)))), .int (zI ((g 8) + (1))), .int (zI (g 10))])), (h2, .inr (1, [.int (zI (g 7)), .int (zI (g 9)), .int (zI (g 11))]))]) C (k_X3_allLeaves l D dA (sp_bh S w h c9) (by omega) (Nat.lt_of_le_of_lt (sp_bh_le S w h c9) hx)) (va_cwS 1 C.1.2.2.2.2 (hw_S tw_m_RX1_79 tw_t_X3_allLeaves tw_n_RX3 tw_k_X3_allLeaves) rfl rfl rfl (by decide +kernel) ⟨Nat.le_of_ble_eq_true rfl, Nat.le_of_ble_eq_true rfl⟩) (hv_pm [] rfl) rfl rfl (Nat.le_of_ble_eq_true rfl) dX1_doClip_80 ⟨Nat.le_of_ble_eq_true rfl, Nat.le_of_ble_eq_true rfl⟩ (fun _ _ => ?_)
    refine hv_eqst (st' := [.int (zI ((sp_lv (sp_bh S w h c9) : Int))), .int (zI ((sp_lv h : Int))), .int (zI (g 10)), .ref h1]) rfl ?_
    refine hv_weq (ws' := [(h0, .inr (0, [.int (zI (g 0)), .int (zI (g 1)), .int (zI (g 2)), .int (zI (g 3)), .int (zI (g 4)), .int (zI (g 5)), .ref h1, .ref h2])), (h1, .inr (1, [.int (zI ((g 6) + (sp_fi g h (sp_bh S w h c9)))), .int (zI ((g 8) + (1))), .int (zI (g 10))])), (h2, .inr (1, [.int (zI (g 7)), .int (zI (g 9)), .int (zI (g 11))]))]) (rfl) ?_
    refine hv_isub C dX1_doClip_83 (zI_sub _ _) ?_
    refine hv_iadd C dX1_doClip_84 (zI_add _ _) ?_
    refine hv_putN C dX1_doClip_85 (fun w h => hw_c (tw_u_2 w h)) tyX2 tyX2_ok nmX2 1 (ci := 1) (ty := .int) rfl rfl 2 (by decide) tw_fn_RX1_76 rfl rfl rfl rfl (Nat.le_of_ble_eq_true rfl) ?_
    refine hv_weq (ws' := [(h0, .inr (0, [.int (zI (g 0)), .int (zI (g 1)), .int (zI (g 2)), .int (zI (g 3)), .int (zI (g 4)), .int (zI (g 5)), .ref h1, .ref h2])), (h1, .inr (1, [.int (zI ((g 6) + (sp_fi g h (sp_bh S w h c9)))), .int (zI ((g 8) + (1))), .int (zI ((g 10) + (((sp_lv h : Int)) - ((sp_lv (sp_bh S w h c9) : Int)))))])), (h2, .inr (1, [.int (zI (g 7)), .int (zI (g 9)), .int (zI (g 11))]))]) rfl ?_
    refine hv_aload_n C dX1_doClip_88 3 rfl ?_
    refine hv_iload_n C dX1_doClip_89 2 rfl ?_
    refine hv_put C dX1_doClip_90 (fun w h => hw_c (tw_u_1 w h)) tyX1 tyX1_ok nmX1 0 (ci := 0) (ty := .int) rfl rfl 1 (by decide) (hw_c tw_f_RX1_41) rfl rfl rfl rfl (Nat.le_of_ble_eq_true rfl) ?_
    refine hv_weq (ws' := [(h0, .inr (0, [.int (zI (g 0)), .int (zI (((sp_bh S w h c9) : Int))), .int (zI (g 2)), .int (zI (g 3)), .int (zI (g 4)), .int (zI (g 5)), .ref h1, .ref h2])), (h1, .inr (1, [.int (zI ((g 6) + (sp_fi g h (sp_bh S w h c9)))), .int (zI ((g 8) + (1))), .int (zI ((g 10) + (((sp_lv h : Int)) - ((sp_lv (sp_bh S w h c9) : Int)))))])), (h2, .inr (1, [.int (zI (g 7)), .int (zI (g 9)), .int (zI (g 11))]))]) rfl ?_
    refine hv_aload_n C dX1_doClip_93 3 rfl ?_
    refine hv_callV (As := []) (rest := []) (wc := [(h0, .inr (0, [.int (zI (g 0)), .int (zI (((sp_bh S w h c9) : Int))), .int (zI (g 2)), .int (zI (g 3)), .int (zI (g 4)), .int (zI (g 5)), .ref h1, .ref h2])), (h1, .inr (1, [.int (zI ((g 6) + (sp_fi g h (sp_bh S w h c9)))), .int (zI ((g 8) + (1))), .int (zI ((g 10) + (((sp_lv h : Int)) - ((sp_lv (sp_bh S w h c9) : Int)))))])), (h2, .inr (1, [.int (zI (g 7)), .int (zI (g 9)), .int (zI (g 11))]))]) (wr := []) C (k_X1_turnOver l D dA h0 h1 h2 (fun k => match k with | 0 => g 0 | 1 => ((sp_bh S w h c9) : Int) | 2 => g 2 | 3 => g 3 | 4 => g 4 | 5 => g 5 | 6 => (g 6) + (sp_fi g h (sp_bh S w h c9)) | 7 => g 7 | 8 => (g 8) + (1) | 9 => g 9 | 10 => (g 10) + (((sp_lv h : Int)) - ((sp_lv (sp_bh S w h c9) : Int))) | _ => g 11)) (cwV 0 C.1.2.2.2.2 (hw_V tw_m_RX1_83 tw_i_X1_turnOver tw_s_X1_turnOver tw_n_RX1 tw_k_X1_turnOver) rfl rfl rfl (by decide +kernel) ⟨Nat.le_of_ble_eq_true rfl, Nat.le_of_ble_eq_true rfl⟩) (hv_pm [0, 0, 0] rfl) rfl 0 0 rfl rfl rfl (Nat.le_of_ble_eq_true rfl) dX1_doClip_94 ⟨Nat.le_of_ble_eq_true rfl, Nat.le_of_ble_eq_true rfl⟩ (fun _ _ => ?_)
    refine hv_eqst (st' := []) rfl ?_
    refine hv_weq (ws' := [(h0, .inr (0, [.int (zI (g 0)), .int (zI (((sp_bh S w h c9) : Int))), .int (zI (g 2)), .int (zI (1 - g 3)), .int (zI (g 4)), .int (zI (g 5)), .ref h1, .ref h2])), (h1, .inr (1, [.int (zI ((g 6) + (sp_fi g h (sp_bh S w h c9)))), .int (zI ((g 8) + (1))), .int (zI ((g 10) + (((sp_lv h : Int)) - ((sp_lv (sp_bh S w h c9) : Int)))))])), (h2, .inr (1, [.int (zI (g 7)), .int (zI (g 9)), .int (zI (g 11))]))]) (rfl) ?_
    refine hv_iload_n C dX1_doClip_97 1 rfl ?_
    exact hv_iret C M dX1_doClip_98 rfl rfl () trivial rfl [] (List.Perm.of_eq (by simp [G3, sp_do, e3])) (Nat.le_refl _) (Nat.le_refl _)
  · have e3 : g 3 = 1 := by omega
    refine hv_aload_n C dX1_doClip_34 2 rfl ?_
    refine hv_aload_n C dX1_doClip_35 2 rfl ?_
    refine hv_get C dX1_doClip_36 (fun w h => hw_c (tw_u_1 w h)) 0 (ci := 0) rfl rfl 3 (by decide) (hw_c tw_f_RX1_44) rfl ?_
    refine hv_callV (As := [.int (zI (g 3))]) (rest := []) (wc := [(h0, .inr (0, [.int (zI (g 0)), .int (zI (g 1)), .int (zI (g 2)), .int (zI (g 3)), .int (zI (g 4)), .int (zI (g 5)), .ref h1, .ref h2])), (h1, .inr (1, [.int (zI (g 6)), .int (zI (g 8)), .int (zI (g 10))])), (h2, .inr (1, [.int (zI (g 7)), .int (zI (g 9)), .int (zI (g 11))]))]) (wr := []) C (k_X1_who1 l D dA h0 h1 h2 g (g 3) (by omega) (by omega)) (cwV 1 C.1.2.2.2.2 (hw_V tw_m_RX1_72 tw_i_X1_who tw_s_X1_who tw_n_RX1 tw_k_X1_who) rfl rfl rfl (by decide +kernel) ⟨Nat.le_of_ble_eq_true rfl, Nat.le_of_ble_eq_true rfl⟩) (hv_pm [0, 0, 0] rfl) rfl 0 0 rfl rfl rfl (Nat.le_of_ble_eq_true rfl) dX1_doClip_39 ⟨Nat.le_of_ble_eq_true rfl, Nat.le_of_ble_eq_true rfl⟩ (fun _ _ => ?_)
    refine hv_eqst (st' := [.ref h2]) rfl ?_
    refine hv_weq (ws' := [(h0, .inr (0, [.int (zI (g 0)), .int (zI (g 1)), .int (zI (g 2)), .int (zI (g 3)), .int (zI (g 4)), .int (zI (g 5)), .ref h1, .ref h2])), (h1, .inr (1, [.int (zI (g 6)), .int (zI (g 8)), .int (zI (g 10))])), (h2, .inr (1, [.int (zI (g 7)), .int (zI (g 9)), .int (zI (g 11))]))]) (rfl) ?_
    refine hv_astore C dX1_doClip_42 (lw := [(4, .ref h2), (3, .int (zI (sp_fi g h (sp_bh S w h c9)))), (2, .int (zI (((sp_bh S w h c9) : Int)))), (0, .ref h0), (1, .int (zI ((c9 : Int))))]) (by decide) rfl ?_
    refine hv_aload C dX1_doClip_44 0 rfl ?_
    refine hv_dup C dX1_doClip_46 rfl ?_
    refine hv_getN C dX1_doClip_47 (fun w h => hw_c (tw_u_2 w h)) 2 (ci := 1) rfl rfl 0 (by decide) tw_fn_RX1_56 rfl ?_
    refine hv_iload_n C dX1_doClip_50 1 rfl ?_
    refine hv_iadd C dX1_doClip_51 (zI_add _ _) ?_
    refine hv_putN C dX1_doClip_52 (fun w h => hw_c (tw_u_2 w h)) tyX2 tyX2_ok nmX2 2 (ci := 1) (ty := .int) rfl rfl 0 (by decide) tw_fn_RX1_56 rfl rfl rfl rfl (Nat.le_of_ble_eq_true rfl) ?_
    refine hv_weq (ws' := [(h0, .inr (0, [.int (zI (g 0)), .int (zI (g 1)), .int (zI (g 2)), .int (zI (g 3)), .int (zI (g 4)), .int (zI (g 5)), .ref h1, .ref h2])), (h1, .inr (1, [.int (zI (g 6)), .int (zI (g 8)), .int (zI (g 10))])), (h2, .inr (1, [.int (zI ((g 7) + (sp_fi g h (sp_bh S w h c9)))), .int (zI (g 9)), .int (zI (g 11))]))]) rfl ?_
    refine hv_aload C dX1_doClip_55 0 rfl ?_
    refine hv_dup C dX1_doClip_57 rfl ?_
    refine hv_getN C dX1_doClip_58 (fun w h => hw_c (tw_u_2 w h)) 2 (ci := 1) rfl rfl 1 (by decide) tw_fn_RX1_53 rfl ?_
    refine hv_iconst C dX1_doClip_61 (v := zI (1)) rfl ?_
    refine hv_iadd C dX1_doClip_62 (zI_add _ _) ?_
    refine hv_putN C dX1_doClip_63 (fun w h => hw_c (tw_u_2 w h)) tyX2 tyX2_ok nmX2 2 (ci := 1) (ty := .int) rfl rfl 1 (by decide) tw_fn_RX1_53 rfl rfl rfl rfl (Nat.le_of_ble_eq_true rfl) ?_
    refine hv_weq (ws' := [(h0, .inr (0, [.int (zI (g 0)), .int (zI (g 1)), .int (zI (g 2)), .int (zI (g 3)), .int (zI (g 4)), .int (zI (g 5)), .ref h1, .ref h2])), (h1, .inr (1, [.int (zI (g 6)), .int (zI (g 8)), .int (zI (g 10))])), (h2, .inr (1, [.int (zI ((g 7) + (sp_fi g h (sp_bh S w h c9)))), .int (zI ((g 9) + (1))), .int (zI (g 11))]))]) rfl ?_
    refine hv_aload C dX1_doClip_66 0 rfl ?_
    refine hv_dup C dX1_doClip_68 rfl ?_
    refine hv_getN C dX1_doClip_69 (fun w h => hw_c (tw_u_2 w h)) 2 (ci := 1) rfl rfl 2 (by decide) tw_fn_RX1_76 rfl ?_
    refine hv_aload_n C dX1_doClip_72 3 rfl ?_
    refine hv_get C dX1_doClip_73 (fun w h => hw_c (tw_u_1 w h)) 0 (ci := 0) rfl rfl 1 (by decide) (hw_c tw_f_RX1_41) rfl ?_
    refine hv_callS (As := [.int (zI (g 1))]) (rest := [.int (zI (g 11)), .ref h2]) (wc := []) (wr := [(h0, .inr (0, [.int (zI (g 0)), .int (zI (g 1)), .int (zI (g 2)), .int (zI (g 3)), .int (zI (g 4)), .int (zI (g 5)), .ref h1, .ref h2])), (h1, .inr (1, [.int (zI (g 6)), .int (zI (g 8)), .int (zI (g 10))])), (h2, .inr (1, [.int (zI ((g 7) + (sp_fi g h (sp_bh S w h c9)))), .int (zI ((g 9) + (1))), .int (zI (g 11))]))]) C (k_X3_allLeaves l D dA h (by omega) hx) (va_cwS 1 C.1.2.2.2.2 (hw_S tw_m_RX1_79 tw_t_X3_allLeaves tw_n_RX3 tw_k_X3_allLeaves) rfl rfl rfl (by decide +kernel) ⟨Nat.le_of_ble_eq_true rfl, Nat.le_of_ble_eq_true rfl⟩) (hv_pm [] rfl) rfl rfl (Nat.le_of_ble_eq_true rfl) dX1_doClip_76 ⟨Nat.le_of_ble_eq_true rfl, Nat.le_of_ble_eq_true rfl⟩ (fun _ _ => ?_)
    refine hv_eqst (st' := [.int (zI ((sp_lv h : Int))), .int (zI (g 11)), .ref h2]) rfl ?_
    refine hv_weq (ws' := [(h0, .inr (0, [.int (zI (g 0)), .int (zI (g 1)), .int (zI (g 2)), .int (zI (g 3)), .int (zI (g 4)), .int (zI (g 5)), .ref h1, .ref h2])), (h1, .inr (1, [.int (zI (g 6)), .int (zI (g 8)), .int (zI (g 10))])), (h2, .inr (1, [.int (zI ((g 7) + (sp_fi g h (sp_bh S w h c9)))), .int (zI ((g 9) + (1))), .int (zI (g 11))]))]) (rfl) ?_
    refine hv_iload_n C dX1_doClip_79 2 rfl ?_
    refine hv_callS (As := [.int (zI (((sp_bh S w h c9) : Int)))]) (rest := [.int (zI ((sp_lv h : Int))), .int (zI (g 11)), .ref h2]) (wc := []) (wr := [(h0, .inr (0, [.int (zI (g 0)), .int (zI (g 1)), .int (zI (g 2)), .int (zI (g 3)), .int (zI (g 4)), .int (zI (g 5)), .ref h1, .ref h2])), (h1, .inr (1, [.int (zI (g 6)), .int (zI (g 8)), .int (zI (g 10))])), (h2, .inr (1, [.int (zI ((g 7) + (sp_fi g h (sp_bh S w h c9)))), .int (zI ((g 9) + (1))), .int (zI (g 11))]))]) C (k_X3_allLeaves l D dA (sp_bh S w h c9) (by omega) (Nat.lt_of_le_of_lt (sp_bh_le S w h c9) hx)) (va_cwS 1 C.1.2.2.2.2 (hw_S tw_m_RX1_79 tw_t_X3_allLeaves tw_n_RX3 tw_k_X3_allLeaves) rfl rfl rfl (by decide +kernel) ⟨Nat.le_of_ble_eq_true rfl, Nat.le_of_ble_eq_true rfl⟩) (hv_pm [] rfl) rfl rfl (Nat.le_of_ble_eq_true rfl) dX1_doClip_80 ⟨Nat.le_of_ble_eq_true rfl, Nat.le_of_ble_eq_true rfl⟩ (fun _ _ => ?_)
    refine hv_eqst (st' := [.int (zI ((sp_lv (sp_bh S w h c9) : Int))), .int (zI ((sp_lv h : Int))), .int (zI (g 11)), .ref h2]) rfl ?_
    refine hv_weq (ws' := [(h0, .inr (0, [.int (zI (g 0)), .int (zI (g 1)), .int (zI (g 2)), .int (zI (g 3)), .int (zI (g 4)), .int (zI (g 5)), .ref h1, .ref h2])), (h1, .inr (1, [.int (zI (g 6)), .int (zI (g 8)), .int (zI (g 10))])), (h2, .inr (1, [.int (zI ((g 7) + (sp_fi g h (sp_bh S w h c9)))), .int (zI ((g 9) + (1))), .int (zI (g 11))]))]) (rfl) ?_
    refine hv_isub C dX1_doClip_83 (zI_sub _ _) ?_
    refine hv_iadd C dX1_doClip_84 (zI_add _ _) ?_
    refine hv_putN C dX1_doClip_85 (fun w h => hw_c (tw_u_2 w h)) tyX2 tyX2_ok nmX2 2 (ci := 1) (ty := .int) rfl rfl 2 (by decide) tw_fn_RX1_76 rfl rfl rfl rfl (Nat.le_of_ble_eq_true rfl) ?_
    refine hv_weq (ws' := [(h0, .inr (0, [.int (zI (g 0)), .int (zI (g 1)), .int (zI (g 2)), .int (zI (g 3)), .int (zI (g 4)), .int (zI (g 5)), .ref h1, .ref h2])), (h1, .inr (1, [.int (zI (g 6)), .int (zI (g 8)), .int (zI (g 10))])), (h2, .inr (1, [.int (zI ((g 7) + (sp_fi g h (sp_bh S w h c9)))), .int (zI ((g 9) + (1))), .int (zI ((g 11) + (((sp_lv h : Int)) - ((sp_lv (sp_bh S w h c9) : Int)))))]))]) rfl ?_
    refine hv_aload_n C dX1_doClip_88 3 rfl ?_
    refine hv_iload_n C dX1_doClip_89 2 rfl ?_
    refine hv_put C dX1_doClip_90 (fun w h => hw_c (tw_u_1 w h)) tyX1 tyX1_ok nmX1 0 (ci := 0) (ty := .int) rfl rfl 1 (by decide) (hw_c tw_f_RX1_41) rfl rfl rfl rfl (Nat.le_of_ble_eq_true rfl) ?_
    refine hv_weq (ws' := [(h0, .inr (0, [.int (zI (g 0)), .int (zI (((sp_bh S w h c9) : Int))), .int (zI (g 2)), .int (zI (g 3)), .int (zI (g 4)), .int (zI (g 5)), .ref h1, .ref h2])), (h1, .inr (1, [.int (zI (g 6)), .int (zI (g 8)), .int (zI (g 10))])), (h2, .inr (1, [.int (zI ((g 7) + (sp_fi g h (sp_bh S w h c9)))), .int (zI ((g 9) + (1))), .int (zI ((g 11) + (((sp_lv h : Int)) - ((sp_lv (sp_bh S w h c9) : Int)))))]))]) rfl ?_
    refine hv_aload_n C dX1_doClip_93 3 rfl ?_
    refine hv_callV (As := []) (rest := []) (wc := [(h0, .inr (0, [.int (zI (g 0)), .int (zI (((sp_bh S w h c9) : Int))), .int (zI (g 2)), .int (zI (g 3)), .int (zI (g 4)), .int (zI (g 5)), .ref h1, .ref h2])), (h1, .inr (1, [.int (zI (g 6)), .int (zI (g 8)), .int (zI (g 10))])), (h2, .inr (1, [.int (zI ((g 7) + (sp_fi g h (sp_bh S w h c9)))), .int (zI ((g 9) + (1))), .int (zI ((g 11) + (((sp_lv h : Int)) - ((sp_lv (sp_bh S w h c9) : Int)))))]))]) (wr := []) C (k_X1_turnOver l D dA h0 h1 h2 (fun k => match k with | 0 => g 0 | 1 => ((sp_bh S w h c9) : Int) | 2 => g 2 | 3 => g 3 | 4 => g 4 | 5 => g 5 | 6 => g 6 | 7 => (g 7) + (sp_fi g h (sp_bh S w h c9)) | 8 => g 8 | 9 => (g 9) + (1) | 10 => g 10 | _ => (g 11) + (((sp_lv h : Int)) - ((sp_lv (sp_bh S w h c9) : Int))))) (cwV 0 C.1.2.2.2.2 (hw_V tw_m_RX1_83 tw_i_X1_turnOver tw_s_X1_turnOver tw_n_RX1 tw_k_X1_turnOver) rfl rfl rfl (by decide +kernel) ⟨Nat.le_of_ble_eq_true rfl, Nat.le_of_ble_eq_true rfl⟩) (hv_pm [0, 0, 0] rfl) rfl 0 0 rfl rfl rfl (Nat.le_of_ble_eq_true rfl) dX1_doClip_94 ⟨Nat.le_of_ble_eq_true rfl, Nat.le_of_ble_eq_true rfl⟩ (fun _ _ => ?_)
    refine hv_eqst (st' := []) rfl ?_
    refine hv_weq (ws' := [(h0, .inr (0, [.int (zI (g 0)), .int (zI (((sp_bh S w h c9) : Int))), .int (zI (g 2)), .int (zI (1 - g 3)), .int (zI (g 4)), .int (zI (g 5)), .ref h1, .ref h2])), (h1, .inr (1, [.int (zI (g 6)), .int (zI (g 8)), .int (zI (g 10))])), (h2, .inr (1, [.int (zI ((g 7) + (sp_fi g h (sp_bh S w h c9)))), .int (zI ((g 9) + (1))), .int (zI ((g 11) + (((sp_lv h : Int)) - ((sp_lv (sp_bh S w h c9) : Int)))))]))]) (rfl) ?_
    refine hv_iload_n C dX1_doClip_97 1 rfl ?_
    exact hv_iret C M dX1_doClip_98 rfl rfl () trivial rfl [] (List.Perm.of_eq (by simp [G3, sp_do, e3])) (Nat.le_refl _) (Nat.le_refl _)

set_option maxHeartbeats 4000000 in
set_option maxRecDepth 100000 in
theorem k_X1_triesWind (l : Launch) (D : va_G) (dA : Nat → ClassId) (h0 h1 h2 : Nat) (g : Nat → Int) (z : Int) (hz : -2147483648 ≤ z ∧ z < 2147483648) : hv_Ct l yX1_triesWind (hw_W yX1_triesWind cX1_triesWind 2 (some .boolean)) 1 D dA [.ref h0, .int (zI (z))] ([(h0, .inr (0, [.int (zI (g 0)), .int (zI (g 1)), .int (zI (g 2)), .int (zI (g 3)), .int (zI (g 4)), .int (zI (g 5)), .ref h1, .ref h2])), (h1, .inr (1, [.int (zI (g 6)), .int (zI (g 8)), .int (zI (g 10))])), (h2, .inr (1, [.int (zI (g 7)), .int (zI (g 9)), .int (zI (g 11))]))]) 0 0 (S := Unit) (fun _ => some (.int (zI (zB (decide (0 ≤ z ∧ z < 3)))))) (fun _ => True) (fun _ => G3 h0 h1 h2 (if 0 ≤ z ∧ z < 3 then sp_set g 2 z else g)) := by
  refine hv_of (cc := cX1_triesWind) (maxL := 2) (ret := (some .boolean)) (own := RX1) rfl (by decide) rfl (Nat.le_of_ble_eq_true rfl) ?_
  intro p e s m args below meth c C M
  refine hv_lveq (lv' := [(0, .ref h0), (1, .int (zI (z)))]) rfl ?_
  refine hv_iload_n C dX1_triesWind_0 1 rfl ?_
  refine hv_callS (As := [.int (zI (z))]) (rest := []) (wc := []) (wr := [(h0, .inr (0, [.int (zI (g 0)), .int (zI (g 1)), .int (zI (g 2)), .int (zI (g 3)), .int (zI (g 4)), .int (zI (g 5)), .ref h1, .ref h2])), (h1, .inr (1, [.int (zI (g 6)), .int (zI (g 8)), .int (zI (g 10))])), (h2, .inr (1, [.int (zI (g 7)), .int (zI (g 9)), .int (zI (g 11))]))]) C (k_X1_isWind l D dA z hz) (va_cwS 1 C.1.2.2.2.2 (hw_S tw_m_RX1_112 tw_t_X1_isWind tw_n_RX1 tw_k_X1_isWind) rfl rfl rfl (by decide +kernel) ⟨Nat.le_of_ble_eq_true rfl, Nat.le_of_ble_eq_true rfl⟩) (hv_pm [] rfl) rfl rfl (Nat.le_of_ble_eq_true rfl) dX1_triesWind_1 ⟨Nat.le_of_ble_eq_true rfl, Nat.le_of_ble_eq_true rfl⟩ (fun _ _ => ?_)
  refine hv_eqst (st' := [.int (zI (zB (decide (0 ≤ z ∧ z < 3))))]) rfl ?_
  refine hv_weq (ws' := [(h0, .inr (0, [.int (zI (g 0)), .int (zI (g 1)), .int (zI (g 2)), .int (zI (g 3)), .int (zI (g 4)), .int (zI (g 5)), .ref h1, .ref h2])), (h1, .inr (1, [.int (zI (g 6)), .int (zI (g 8)), .int (zI (g 10))])), (h2, .inr (1, [.int (zI (g 7)), .int (zI (g 9)), .int (zI (g 11))]))]) (rfl) ?_
  refine hv_if_ne C dX1_triesWind_4 (tgt := 9) (by decide) zB_n0 (fun hc4 => ?_) (fun hc4 => ?_)
  · refine hv_aload_n C dX1_triesWind_9 0 rfl ?_
    refine hv_iload_n C dX1_triesWind_10 1 rfl ?_
    refine hv_put C dX1_triesWind_11 (fun w h => hw_c (tw_u_1 w h)) tyX1 tyX1_ok nmX1 0 (ci := 0) (ty := .int) rfl rfl 2 (by decide) (hw_c tw_f_RX1_25) rfl rfl rfl rfl (Nat.le_of_ble_eq_true rfl) ?_
    refine hv_weq (ws' := [(h0, .inr (0, [.int (zI (g 0)), .int (zI (g 1)), .int (zI (z)), .int (zI (g 3)), .int (zI (g 4)), .int (zI (g 5)), .ref h1, .ref h2])), (h1, .inr (1, [.int (zI (g 6)), .int (zI (g 8)), .int (zI (g 10))])), (h2, .inr (1, [.int (zI (g 7)), .int (zI (g 9)), .int (zI (g 11))]))]) rfl ?_
    refine hv_iconst C dX1_triesWind_14 (v := zI (1)) rfl ?_
    exact hv_iret C M dX1_triesWind_15 rfl zB_n1 () trivial (hv_rv (zB_T (by omega))) [] (List.Perm.of_eq (by simp [G3, sp_set, hc4])) (Nat.le_refl _) (Nat.le_refl _)
  · refine hv_iconst C dX1_triesWind_7 (v := zI (0)) rfl ?_
    exact hv_iret C M dX1_triesWind_8 rfl zB_n2 () trivial (hv_rv (zB_F (by omega))) [] (List.Perm.of_eq (by simp [G3, sp_set, hc4])) (Nat.le_refl _) (Nat.le_refl _)

/-- a stem may be watered -/
def sp_cw (S h : Nat) (z : Int) : Bool := decide (0 ≤ z) && decide (z < (S : Int)) && !decide (sp_dg h z.toNat = 3)
/-- a clip is possible -/
def sp_ca (S r h : Nat) (a b k : Int) : Bool := decide (0 ≤ a) && decide (b < (S : Int)) && decide (1 ≤ k) && decide (k ≤ 3) && decide (a ≤ b) && decide (b - a < (r : Int)) && !decide (sp_cc h (100 * a + 10 * b + k).toNat = h)
theorem sp_cw_t {S h : Nat} {z : Int} (h1 : 0 ≤ z ∧ z < (S : Int)) (h2 : ¬ sp_dg h z.toNat = 3) : sp_cw S h z = true := by simp [sp_cw, h1, h2]
theorem sp_cw_f {S h : Nat} {z : Int} (h1 : ¬ ((0 ≤ z ∧ z < (S : Int)) ∧ ¬ sp_dg h z.toNat = 3)) : sp_cw S h z = false := by
  unfold sp_cw
  by_cases g1 : 0 ≤ z <;> by_cases g2 : z < (S : Int) <;> by_cases g3 : sp_dg h z.toNat = 3 <;> simp_all
theorem sp_ca_t {S r h : Nat} {a b k : Int} (h1 : 0 ≤ a ∧ b < (S : Int) ∧ 1 ≤ k ∧ k ≤ 3 ∧ a ≤ b ∧ b - a < (r : Int)) (h2 : ¬ sp_cc h (100 * a + 10 * b + k).toNat = h) : sp_ca S r h a b k = true := by simp [sp_ca, h1, h2]
theorem sp_ca_f {S r h : Nat} {a b k : Int} (h1 : ¬ ((0 ≤ a ∧ b < (S : Int) ∧ 1 ≤ k ∧ k ≤ 3 ∧ a ≤ b ∧ b - a < (r : Int)) ∧ ¬ sp_cc h (100 * a + 10 * b + k).toNat = h)) : sp_ca S r h a b k = false := by
  unfold sp_ca
  by_cases g1 : 0 ≤ a <;> by_cases g2 : b < (S : Int) <;> by_cases g3 : 1 ≤ k <;> by_cases g4 : k ≤ 3 <;> by_cases g5 : a ≤ b <;> by_cases g6 : b - a < (r : Int) <;> by_cases g7 : sp_cc h (100 * a + 10 * b + k).toNat = h <;> simp_all

set_option maxHeartbeats 4000000 in
set_option maxRecDepth 100000 in
theorem k_X1_triesWater (l : Launch) (D : va_G) (dA : Nat → ClassId) (h0 h1 h2 : Nat) (g : Nat → Int) (S h : Nat) (eS : g 0 = (S : Int)) (hS : 2 ≤ S ∧ S ≤ 6) (eh : g 1 = (h : Int)) (hh : h < 4 ^ S) (z : Int) (hz : -2147483648 ≤ z ∧ z < 2147483648) : hv_Ct l yX1_triesWater (hw_W yX1_triesWater cX1_triesWater 2 (some .boolean)) 2 D dA [.ref h0, .int (zI (z))] ([(h0, .inr (0, [.int (zI (g 0)), .int (zI (g 1)), .int (zI (g 2)), .int (zI (g 3)), .int (zI (g 4)), .int (zI (g 5)), .ref h1, .ref h2])), (h1, .inr (1, [.int (zI (g 6)), .int (zI (g 8)), .int (zI (g 10))])), (h2, .inr (1, [.int (zI (g 7)), .int (zI (g 9)), .int (zI (g 11))]))]) 0 0 (S := Unit) (fun _ => some (.int (zI (zB (sp_cw S h z))))) (fun _ => True) (fun _ => G3 h0 h1 h2 (if sp_cw S h z = true then sp_set g 1 ((h + 4 ^ z.toNat : Nat) : Int) else g)) := by
  have hx : h < 4096 := sp_hlt hS.2 hh
  refine hv_of (cc := cX1_triesWater) (maxL := 2) (ret := (some .boolean)) (own := RX1) rfl (by decide) rfl (Nat.le_of_ble_eq_true rfl) ?_
  intro p e s m args below meth c C M
  refine hv_lveq (lv' := [(0, .ref h0), (1, .int (zI (z)))]) rfl ?_
  refine hv_aload_n C dX1_triesWater_0 0 rfl ?_
  refine hv_iload_n C dX1_triesWater_1 1 rfl ?_
  refine hv_callV (As := [.int (zI (z))]) (rest := []) (wc := [(h0, .inr (0, [.int (zI (g 0)), .int (zI (g 1)), .int (zI (g 2)), .int (zI (g 3)), .int (zI (g 4)), .int (zI (g 5)), .ref h1, .ref h2])), (h1, .inr (1, [.int (zI (g 6)), .int (zI (g 8)), .int (zI (g 10))])), (h2, .inr (1, [.int (zI (g 7)), .int (zI (g 9)), .int (zI (g 11))]))]) (wr := []) C (k_X1_hasStem l D dA h0 h1 h2 g (z) (by omega) (by omega)) (cwV 1 C.1.2.2.2.2 (hw_V tw_m_RX1_86 tw_i_X1_hasStem tw_s_X1_hasStem tw_n_RX1 tw_k_X1_hasStem) rfl rfl rfl (by decide +kernel) ⟨Nat.le_of_ble_eq_true rfl, Nat.le_of_ble_eq_true rfl⟩) (hv_pm [0, 0, 0] rfl) rfl 0 0 rfl rfl rfl (Nat.le_of_ble_eq_true rfl) dX1_triesWater_2 ⟨Nat.le_of_ble_eq_true rfl, Nat.le_of_ble_eq_true rfl⟩ (fun _ _ => ?_)
  refine hv_eqst (st' := [.int (zI (zB (decide (0 ≤ z ∧ z < g 0))))]) rfl ?_
  refine hv_weq (ws' := [(h0, .inr (0, [.int (zI (g 0)), .int (zI (g 1)), .int (zI (g 2)), .int (zI (g 3)), .int (zI (g 4)), .int (zI (g 5)), .ref h1, .ref h2])), (h1, .inr (1, [.int (zI (g 6)), .int (zI (g 8)), .int (zI (g 10))])), (h2, .inr (1, [.int (zI (g 7)), .int (zI (g 9)), .int (zI (g 11))]))]) (rfl) ?_
  refine hv_if_eq C dX1_triesWater_5 (tgt := 19) (by decide) zB_0 (fun hc5 => ?_) (fun hc5 => ?_)
  · refine hv_iconst C dX1_triesWater_19 (v := zI (0)) rfl ?_
    exact hv_iret C M dX1_triesWater_20 rfl zB_n2 () trivial (hv_rv (by rw [sp_cw_f (fun q => by first | exact hc5 (by omega) | exact q.2 hc16)]; rfl)) [] (List.Perm.of_eq (by first | (rw [sp_cw_t (by omega) hc16]; simp [G3, sp_set]) | (rw [sp_cw_f (fun q => by first | exact hc5 (by omega) | exact q.2 hc16)]; rfl))) (Nat.le_refl _) (Nat.le_refl _)
  · refine hv_aload_n C dX1_triesWater_8 0 rfl ?_
    refine hv_get C dX1_triesWater_9 (fun w h => hw_c (tw_u_1 w h)) 0 (ci := 0) rfl rfl 1 (by decide) (hw_c tw_f_RX1_41) rfl ?_
    refine hv_iload_n C dX1_triesWater_12 1 rfl ?_
    refine hv_callS (As := [.int (zI (g 1)), .int (zI (z))]) (rest := []) (wc := []) (wr := [(h0, .inr (0, [.int (zI (g 0)), .int (zI (g 1)), .int (zI (g 2)), .int (zI (g 3)), .int (zI (g 4)), .int (zI (g 5)), .ref h1, .ref h2])), (h1, .inr (1, [.int (zI (g 6)), .int (zI (g 8)), .int (zI (g 10))])), (h2, .inr (1, [.int (zI (g 7)), .int (zI (g 9)), .int (zI (g 11))]))]) C (k_X3_isFull l D dA h z.toNat (by omega) (by omega) (by omega) (by omega)) (va_cwS 2 C.1.2.2.2.2 (hw_S tw_m_RX1_105 tw_t_X3_isFull tw_n_RX3 tw_k_X3_isFull) rfl rfl rfl (by decide +kernel) ⟨Nat.le_of_ble_eq_true rfl, Nat.le_of_ble_eq_true rfl⟩) (hv_pm [] rfl) rfl rfl (Nat.le_of_ble_eq_true rfl) dX1_triesWater_13 ⟨Nat.le_of_ble_eq_true rfl, Nat.le_of_ble_eq_true rfl⟩ (fun _ _ => ?_)
    refine hv_eqst (st' := [.int (zI (zB (decide (sp_dg h z.toNat = 3))))]) rfl ?_
    refine hv_weq (ws' := [(h0, .inr (0, [.int (zI (g 0)), .int (zI (g 1)), .int (zI (g 2)), .int (zI (g 3)), .int (zI (g 4)), .int (zI (g 5)), .ref h1, .ref h2])), (h1, .inr (1, [.int (zI (g 6)), .int (zI (g 8)), .int (zI (g 10))])), (h2, .inr (1, [.int (zI (g 7)), .int (zI (g 9)), .int (zI (g 11))]))]) (rfl) ?_
    refine hv_if_eq C dX1_triesWater_16 (tgt := 21) (by decide) zB_0 (fun hc16 => ?_) (fun hc16 => ?_)
    · refine hv_aload_n C dX1_triesWater_21 0 rfl ?_
      refine hv_aload_n C dX1_triesWater_22 0 rfl ?_
      refine hv_get C dX1_triesWater_23 (fun w h => hw_c (tw_u_1 w h)) 0 (ci := 0) rfl rfl 1 (by decide) (hw_c tw_f_RX1_41) rfl ?_
      refine hv_iload_n C dX1_triesWater_26 1 rfl ?_
      refine hv_callS (As := [.int (zI (g 1)), .int (zI (z))]) (rest := [.ref h0]) (wc := []) (wr := [(h0, .inr (0, [.int (zI (g 0)), .int (zI (g 1)), .int (zI (g 2)), .int (zI (g 3)), .int (zI (g 4)), .int (zI (g 5)), .ref h1, .ref h2])), (h1, .inr (1, [.int (zI (g 6)), .int (zI (g 8)), .int (zI (g 10))])), (h2, .inr (1, [.int (zI (g 7)), .int (zI (g 9)), .int (zI (g 11))]))]) C (k_X3_watered l D dA h z.toNat (by omega) (by omega) (by omega)) (va_cwS 2 C.1.2.2.2.2 (hw_S tw_m_RX1_109 tw_t_X3_watered tw_n_RX3 tw_k_X3_watered) rfl rfl rfl (by decide +kernel) ⟨Nat.le_of_ble_eq_true rfl, Nat.le_of_ble_eq_true rfl⟩) (hv_pm [] rfl) rfl rfl (Nat.le_of_ble_eq_true rfl) dX1_triesWater_27 ⟨Nat.le_of_ble_eq_true rfl, Nat.le_of_ble_eq_true rfl⟩ (fun _ _ => ?_)
      refine hv_eqst (st' := [.int (zI (((h + 4 ^ z.toNat : Nat) : Int))), .ref h0]) rfl ?_
      refine hv_weq (ws' := [(h0, .inr (0, [.int (zI (g 0)), .int (zI (g 1)), .int (zI (g 2)), .int (zI (g 3)), .int (zI (g 4)), .int (zI (g 5)), .ref h1, .ref h2])), (h1, .inr (1, [.int (zI (g 6)), .int (zI (g 8)), .int (zI (g 10))])), (h2, .inr (1, [.int (zI (g 7)), .int (zI (g 9)), .int (zI (g 11))]))]) (rfl) ?_
      refine hv_put C dX1_triesWater_30 (fun w h => hw_c (tw_u_1 w h)) tyX1 tyX1_ok nmX1 0 (ci := 0) (ty := .int) rfl rfl 1 (by decide) (hw_c tw_f_RX1_41) rfl rfl rfl rfl (Nat.le_of_ble_eq_true rfl) ?_
      refine hv_weq (ws' := [(h0, .inr (0, [.int (zI (g 0)), .int (zI (((h + 4 ^ z.toNat : Nat) : Int))), .int (zI (g 2)), .int (zI (g 3)), .int (zI (g 4)), .int (zI (g 5)), .ref h1, .ref h2])), (h1, .inr (1, [.int (zI (g 6)), .int (zI (g 8)), .int (zI (g 10))])), (h2, .inr (1, [.int (zI (g 7)), .int (zI (g 9)), .int (zI (g 11))]))]) rfl ?_
      refine hv_iconst C dX1_triesWater_33 (v := zI (1)) rfl ?_
      exact hv_iret C M dX1_triesWater_34 rfl zB_n1 () trivial (hv_rv (by rw [sp_cw_t (by omega) hc16]; rfl)) [] (List.Perm.of_eq (by first | (rw [sp_cw_t (by omega) hc16]; simp [G3, sp_set]) | (rw [sp_cw_f (fun q => by first | exact hc5 (by omega) | exact q.2 hc16)]; rfl))) (Nat.le_refl _) (Nat.le_refl _)
    · refine hv_iconst C dX1_triesWater_19 (v := zI (0)) rfl ?_
      exact hv_iret C M dX1_triesWater_20 rfl zB_n2 () trivial (hv_rv (by rw [sp_cw_f (fun q => by first | exact hc5 (by omega) | exact q.2 hc16)]; rfl)) [] (List.Perm.of_eq (by first | (rw [sp_cw_t (by omega) hc16]; simp [G3, sp_set]) | (rw [sp_cw_f (fun q => by first | exact hc5 (by omega) | exact q.2 hc16)]; rfl))) (Nat.le_refl _) (Nat.le_refl _)

set_option maxHeartbeats 4000000 in
set_option maxRecDepth 100000 in
theorem k_X1_triesClip (l : Launch) (D : va_G) (dA : Nat → ClassId) (h0 h1 h2 : Nat) (g : Nat → Int) (S h w t : Nat) (eS : g 0 = (S : Int)) (hS : 2 ≤ S ∧ S ≤ 6) (eh : g 1 = (h : Int)) (hh : h < 4 ^ S) (ew : g 2 = (w : Int)) (hw : w < 3) (et : g 3 = (t : Int)) (ht : t < 2) (r : Nat) (er : g 5 = (r : Int)) (hr : 1 ≤ r ∧ r ≤ 3) (za zb zk : Int) (ha : -2147483648 ≤ za ∧ za < 2147483648) (hb : -2147483648 ≤ zb ∧ zb < 2147483648) (hk : -2147483648 ≤ zk ∧ zk < 2147483648) : hv_Ct l yX1_triesClip (hw_W yX1_triesClip cX1_triesClip 4 (some .boolean)) 3 D dA [.ref h0, .int (zI (za)), .int (zI (zb)), .int (zI (zk))] ([(h0, .inr (0, [.int (zI (g 0)), .int (zI (g 1)), .int (zI (g 2)), .int (zI (g 3)), .int (zI (g 4)), .int (zI (g 5)), .ref h1, .ref h2])), (h1, .inr (1, [.int (zI (g 6)), .int (zI (g 8)), .int (zI (g 10))])), (h2, .inr (1, [.int (zI (g 7)), .int (zI (g 9)), .int (zI (g 11))]))]) 0 0 (S := Unit) (fun _ => some (.int (zI (zB (sp_ca S r h za zb zk))))) (fun _ => True) (fun _ => G3 h0 h1 h2 (if sp_ca S r h za zb zk = true then sp_do g h (sp_bh S w h (100 * za + 10 * zb + zk).toNat) else g)) := by
  have hx : h < 4096 := sp_hlt hS.2 hh
  refine hv_of (cc := cX1_triesClip) (maxL := 4) (ret := (some .boolean)) (own := RX1) rfl (by decide) rfl (Nat.le_of_ble_eq_true rfl) ?_
  intro p e s m args below meth c C M
  refine hv_lveq (lv' := [(0, .ref h0), (1, .int (zI (za))), (2, .int (zI (zb))), (3, .int (zI (zk)))]) rfl ?_
  refine hv_aload_n C dX1_triesClip_0 0 rfl ?_
  refine hv_iload_n C dX1_triesClip_1 1 rfl ?_
  refine hv_callV (As := [.int (zI (za))]) (rest := []) (wc := [(h0, .inr (0, [.int (zI (g 0)), .int (zI (g 1)), .int (zI (g 2)), .int (zI (g 3)), .int (zI (g 4)), .int (zI (g 5)), .ref h1, .ref h2])), (h1, .inr (1, [.int (zI (g 6)), .int (zI (g 8)), .int (zI (g 10))])), (h2, .inr (1, [.int (zI (g 7)), .int (zI (g 9)), .int (zI (g 11))]))]) (wr := []) C (k_X1_hasStem l D dA h0 h1 h2 g (za) (by omega) (by omega)) (cwV 1 C.1.2.2.2.2 (hw_V tw_m_RX1_86 tw_i_X1_hasStem tw_s_X1_hasStem tw_n_RX1 tw_k_X1_hasStem) rfl rfl rfl (by decide +kernel) ⟨Nat.le_of_ble_eq_true rfl, Nat.le_of_ble_eq_true rfl⟩) (hv_pm [0, 0, 0] rfl) rfl 0 0 rfl rfl rfl (Nat.le_of_ble_eq_true rfl) dX1_triesClip_2 ⟨Nat.le_of_ble_eq_true rfl, Nat.le_of_ble_eq_true rfl⟩ (fun _ _ => ?_)
  refine hv_eqst (st' := [.int (zI (zB (decide (0 ≤ za ∧ za < g 0))))]) rfl ?_
  refine hv_weq (ws' := [(h0, .inr (0, [.int (zI (g 0)), .int (zI (g 1)), .int (zI (g 2)), .int (zI (g 3)), .int (zI (g 4)), .int (zI (g 5)), .ref h1, .ref h2])), (h1, .inr (1, [.int (zI (g 6)), .int (zI (g 8)), .int (zI (g 10))])), (h2, .inr (1, [.int (zI (g 7)), .int (zI (g 9)), .int (zI (g 11))]))]) (rfl) ?_
  refine hv_if_eq C dX1_triesClip_5 (tgt := 38) (by decide) zB_0 (fun hc5 => ?_) (fun hc5 => ?_)
  · refine hv_iconst C dX1_triesClip_38 (v := zI (0)) rfl ?_
    exact hv_iret C M dX1_triesClip_39 rfl zB_n2 () trivial (hv_rv (by rw [sp_ca_f (fun q => by first | exact hc5 (by omega) | exact hc13 (by omega) | exact hc23 (by omega) | exact hc35 (sp_cn_f (by omega) (by omega) (by omega) q.2))]; rfl)) [] (List.Perm.of_eq (by first | (rw [sp_ca_t (by omega) (sp_cn_t (by omega) (by omega) (by omega) hc35)]; rfl) | (rw [sp_ca_f (fun q => by first | exact hc5 (by omega) | exact hc13 (by omega) | exact hc23 (by omega) | exact hc35 (sp_cn_f (by omega) (by omega) (by omega) q.2))]; rfl))) (Nat.le_refl _) (Nat.le_refl _)
  · refine hv_aload_n C dX1_triesClip_8 0 rfl ?_
    refine hv_iload_n C dX1_triesClip_9 2 rfl ?_
    refine hv_callV (As := [.int (zI (zb))]) (rest := []) (wc := [(h0, .inr (0, [.int (zI (g 0)), .int (zI (g 1)), .int (zI (g 2)), .int (zI (g 3)), .int (zI (g 4)), .int (zI (g 5)), .ref h1, .ref h2])), (h1, .inr (1, [.int (zI (g 6)), .int (zI (g 8)), .int (zI (g 10))])), (h2, .inr (1, [.int (zI (g 7)), .int (zI (g 9)), .int (zI (g 11))]))]) (wr := []) C (k_X1_hasStem l D dA h0 h1 h2 g (zb) (by omega) (by omega)) (cwV 1 C.1.2.2.2.2 (hw_V tw_m_RX1_86 tw_i_X1_hasStem tw_s_X1_hasStem tw_n_RX1 tw_k_X1_hasStem) rfl rfl rfl (by decide +kernel) ⟨Nat.le_of_ble_eq_true rfl, Nat.le_of_ble_eq_true rfl⟩) (hv_pm [0, 0, 0] rfl) rfl 0 0 rfl rfl rfl (Nat.le_of_ble_eq_true rfl) dX1_triesClip_10 ⟨Nat.le_of_ble_eq_true rfl, Nat.le_of_ble_eq_true rfl⟩ (fun _ _ => ?_)
    refine hv_eqst (st' := [.int (zI (zB (decide (0 ≤ zb ∧ zb < g 0))))]) rfl ?_
    refine hv_weq (ws' := [(h0, .inr (0, [.int (zI (g 0)), .int (zI (g 1)), .int (zI (g 2)), .int (zI (g 3)), .int (zI (g 4)), .int (zI (g 5)), .ref h1, .ref h2])), (h1, .inr (1, [.int (zI (g 6)), .int (zI (g 8)), .int (zI (g 10))])), (h2, .inr (1, [.int (zI (g 7)), .int (zI (g 9)), .int (zI (g 11))]))]) (rfl) ?_
    refine hv_if_eq C dX1_triesClip_13 (tgt := 38) (by decide) zB_0 (fun hc13 => ?_) (fun hc13 => ?_)
    · refine hv_iconst C dX1_triesClip_38 (v := zI (0)) rfl ?_
      exact hv_iret C M dX1_triesClip_39 rfl zB_n2 () trivial (hv_rv (by rw [sp_ca_f (fun q => by first | exact hc5 (by omega) | exact hc13 (by omega) | exact hc23 (by omega) | exact hc35 (sp_cn_f (by omega) (by omega) (by omega) q.2))]; rfl)) [] (List.Perm.of_eq (by first | (rw [sp_ca_t (by omega) (sp_cn_t (by omega) (by omega) (by omega) hc35)]; rfl) | (rw [sp_ca_f (fun q => by first | exact hc5 (by omega) | exact hc13 (by omega) | exact hc23 (by omega) | exact hc35 (sp_cn_f (by omega) (by omega) (by omega) q.2))]; rfl))) (Nat.le_refl _) (Nat.le_refl _)
    · refine hv_aload_n C dX1_triesClip_16 0 rfl ?_
      refine hv_iload_n C dX1_triesClip_17 1 rfl ?_
      refine hv_iload_n C dX1_triesClip_18 2 rfl ?_
      refine hv_iload_n C dX1_triesClip_19 3 rfl ?_
      refine hv_callV (As := [.int (zI (za)), .int (zI (zb)), .int (zI (zk))]) (rest := []) (wc := [(h0, .inr (0, [.int (zI (g 0)), .int (zI (g 1)), .int (zI (g 2)), .int (zI (g 3)), .int (zI (g 4)), .int (zI (g 5)), .ref h1, .ref h2])), (h1, .inr (1, [.int (zI (g 6)), .int (zI (g 8)), .int (zI (g 10))])), (h2, .inr (1, [.int (zI (g 7)), .int (zI (g 9)), .int (zI (g 11))]))]) (wr := []) C (k_X1_allowsClip l D dA h0 h1 h2 g za zb zk (by omega) (by omega) (by omega) hk) (cwV 3 C.1.2.2.2.2 (hw_V tw_m_RX1_90 tw_i_X1_allowsClip tw_s_X1_allowsClip tw_n_RX1 tw_k_X1_allowsClip) rfl rfl rfl (by decide +kernel) ⟨Nat.le_of_ble_eq_true rfl, Nat.le_of_ble_eq_true rfl⟩) (hv_pm [0, 0, 0] rfl) rfl 0 0 rfl rfl rfl (Nat.le_of_ble_eq_true rfl) dX1_triesClip_20 ⟨Nat.le_of_ble_eq_true rfl, Nat.le_of_ble_eq_true rfl⟩ (fun _ _ => ?_)
      refine hv_eqst (st' := [.int (zI (zB (decide (1 ≤ zk ∧ zk ≤ 3 ∧ za ≤ zb ∧ zb - za < g 5))))]) rfl ?_
      refine hv_weq (ws' := [(h0, .inr (0, [.int (zI (g 0)), .int (zI (g 1)), .int (zI (g 2)), .int (zI (g 3)), .int (zI (g 4)), .int (zI (g 5)), .ref h1, .ref h2])), (h1, .inr (1, [.int (zI (g 6)), .int (zI (g 8)), .int (zI (g 10))])), (h2, .inr (1, [.int (zI (g 7)), .int (zI (g 9)), .int (zI (g 11))]))]) (rfl) ?_
      refine hv_if_eq C dX1_triesClip_23 (tgt := 38) (by decide) zB_0 (fun hc23 => ?_) (fun hc23 => ?_)
      · refine hv_iconst C dX1_triesClip_38 (v := zI (0)) rfl ?_
        exact hv_iret C M dX1_triesClip_39 rfl zB_n2 () trivial (hv_rv (by rw [sp_ca_f (fun q => by first | exact hc5 (by omega) | exact hc13 (by omega) | exact hc23 (by omega) | exact hc35 (sp_cn_f (by omega) (by omega) (by omega) q.2))]; rfl)) [] (List.Perm.of_eq (by first | (rw [sp_ca_t (by omega) (sp_cn_t (by omega) (by omega) (by omega) hc35)]; rfl) | (rw [sp_ca_f (fun q => by first | exact hc5 (by omega) | exact hc13 (by omega) | exact hc23 (by omega) | exact hc35 (sp_cn_f (by omega) (by omega) (by omega) q.2))]; rfl))) (Nat.le_refl _) (Nat.le_refl _)
      · refine hv_aload_n C dX1_triesClip_26 0 rfl ?_
        refine hv_get C dX1_triesClip_27 (fun w h => hw_c (tw_u_1 w h)) 0 (ci := 0) rfl rfl 1 (by decide) (hw_c tw_f_RX1_41) rfl ?_
        refine hv_iload_n C dX1_triesClip_30 1 rfl ?_
        refine hv_iload_n C dX1_triesClip_31 2 rfl ?_
        refine hv_callS (As := [.int (zI (g 1)), .int (zI (za)), .int (zI (zb))]) (rest := []) (wc := []) (wr := [(h0, .inr (0, [.int (zI (g 0)), .int (zI (g 1)), .int (zI (g 2)), .int (zI (g 3)), .int (zI (g 4)), .int (zI (g 5)), .ref h1, .ref h2])), (h1, .inr (1, [.int (zI (g 6)), .int (zI (g 8)), .int (zI (g 10))])), (h2, .inr (1, [.int (zI (g 7)), .int (zI (g 9)), .int (zI (g 11))]))]) C (k_X3_hasLeaves l D dA h za.toNat zb.toNat (by omega) (by omega) (by omega) (by omega) (by omega) (by omega)) (va_cwS 3 C.1.2.2.2.2 (hw_S tw_m_RX1_94 tw_t_X3_hasLeaves tw_n_RX3 tw_k_X3_hasLeaves) rfl rfl rfl (by decide +kernel) ⟨Nat.le_of_ble_eq_true rfl, Nat.le_of_ble_eq_true rfl⟩) (hv_pm [] rfl) rfl rfl (Nat.le_of_ble_eq_true rfl) dX1_triesClip_32 ⟨Nat.le_of_ble_eq_true rfl, Nat.le_of_ble_eq_true rfl⟩ (fun _ _ => ?_)
        refine hv_eqst (st' := [.int (zI (zB (decide (¬ sp_cc h (100 * za.toNat + 10 * zb.toNat + 3) = h))))]) rfl ?_
        refine hv_weq (ws' := [(h0, .inr (0, [.int (zI (g 0)), .int (zI (g 1)), .int (zI (g 2)), .int (zI (g 3)), .int (zI (g 4)), .int (zI (g 5)), .ref h1, .ref h2])), (h1, .inr (1, [.int (zI (g 6)), .int (zI (g 8)), .int (zI (g 10))])), (h2, .inr (1, [.int (zI (g 7)), .int (zI (g 9)), .int (zI (g 11))]))]) (rfl) ?_
        refine hv_if_ne C dX1_triesClip_35 (tgt := 40) (by decide) zB_n0 (fun hc35 => ?_) (fun hc35 => ?_)
        · refine hv_aload_n C dX1_triesClip_40 0 rfl ?_
          refine hv_iload_n C dX1_triesClip_41 1 rfl ?_
          refine hv_iload_n C dX1_triesClip_42 2 rfl ?_
          refine hv_iload_n C dX1_triesClip_43 3 rfl ?_
          refine hv_callS (As := [.int (zI (za)), .int (zI (zb)), .int (zI (zk))]) (rest := [.ref h0]) (wc := []) (wr := [(h0, .inr (0, [.int (zI (g 0)), .int (zI (g 1)), .int (zI (g 2)), .int (zI (g 3)), .int (zI (g 4)), .int (zI (g 5)), .ref h1, .ref h2])), (h1, .inr (1, [.int (zI (g 6)), .int (zI (g 8)), .int (zI (g 10))])), (h2, .inr (1, [.int (zI (g 7)), .int (zI (g 9)), .int (zI (g 11))]))]) C (k_X0_number l D dA (za) (zb) (zk)) (va_cwS 3 C.1.2.2.2.2 (hw_S tw_m_RX1_97 tw_t_X0_number tw_n_RX0 tw_k_X0_number) rfl rfl rfl (by decide +kernel) ⟨Nat.le_of_ble_eq_true rfl, Nat.le_of_ble_eq_true rfl⟩) (hv_pm [] rfl) rfl rfl (Nat.le_of_ble_eq_true rfl) dX1_triesClip_44 ⟨Nat.le_of_ble_eq_true rfl, Nat.le_of_ble_eq_true rfl⟩ (fun _ _ => ?_)
          refine hv_eqst (st' := [.int (zI (100 * (za) + 10 * (zb) + (zk))), .ref h0]) rfl ?_
          refine hv_weq (ws' := [(h0, .inr (0, [.int (zI (g 0)), .int (zI (g 1)), .int (zI (g 2)), .int (zI (g 3)), .int (zI (g 4)), .int (zI (g 5)), .ref h1, .ref h2])), (h1, .inr (1, [.int (zI (g 6)), .int (zI (g 8)), .int (zI (g 10))])), (h2, .inr (1, [.int (zI (g 7)), .int (zI (g 9)), .int (zI (g 11))]))]) (rfl) ?_
          refine hv_callV (As := [.int (zI (100 * (za) + 10 * (zb) + (zk)))]) (rest := []) (wc := [(h0, .inr (0, [.int (zI (g 0)), .int (zI (g 1)), .int (zI (g 2)), .int (zI (g 3)), .int (zI (g 4)), .int (zI (g 5)), .ref h1, .ref h2])), (h1, .inr (1, [.int (zI (g 6)), .int (zI (g 8)), .int (zI (g 10))])), (h2, .inr (1, [.int (zI (g 7)), .int (zI (g 9)), .int (zI (g 11))]))]) (wr := []) C (k_X1_doClip l D dA h0 h1 h2 g S h w t eS hS eh hh ew hw et ht (100 * za + 10 * zb + zk).toNat (by omega) (by omega)) (cwV 1 C.1.2.2.2.2 (hw_V tw_m_RX1_102 tw_i_X1_doClip tw_s_X1_doClip tw_n_RX1 tw_k_X1_doClip) rfl rfl rfl (by decide +kernel) ⟨Nat.le_of_ble_eq_true rfl, Nat.le_of_ble_eq_true rfl⟩) (hv_pm [0, 0, 0] rfl) rfl 0 0 rfl rfl rfl (Nat.le_of_ble_eq_true rfl) dX1_triesClip_47 ⟨Nat.le_of_ble_eq_true rfl, Nat.le_of_ble_eq_true rfl⟩ (fun _ _ => ?_)
          refine hv_eqst (st' := [.int (zI (sp_fi g h (sp_bh S w h (100 * za + 10 * zb + zk).toNat)))]) rfl ?_
          refine hv_weq (ws' := [(h0, .inr (0, [.int (zI (sp_do g h (sp_bh S w h (100 * za + 10 * zb + zk).toNat) 0)), .int (zI (sp_do g h (sp_bh S w h (100 * za + 10 * zb + zk).toNat) 1)), .int (zI (sp_do g h (sp_bh S w h (100 * za + 10 * zb + zk).toNat) 2)), .int (zI (sp_do g h (sp_bh S w h (100 * za + 10 * zb + zk).toNat) 3)), .int (zI (sp_do g h (sp_bh S w h (100 * za + 10 * zb + zk).toNat) 4)), .int (zI (sp_do g h (sp_bh S w h (100 * za + 10 * zb + zk).toNat) 5)), .ref h1, .ref h2])), (h1, .inr (1, [.int (zI (sp_do g h (sp_bh S w h (100 * za + 10 * zb + zk).toNat) 6)), .int (zI (sp_do g h (sp_bh S w h (100 * za + 10 * zb + zk).toNat) 8)), .int (zI (sp_do g h (sp_bh S w h (100 * za + 10 * zb + zk).toNat) 10))])), (h2, .inr (1, [.int (zI (sp_do g h (sp_bh S w h (100 * za + 10 * zb + zk).toNat) 7)), .int (zI (sp_do g h (sp_bh S w h (100 * za + 10 * zb + zk).toNat) 9)), .int (zI (sp_do g h (sp_bh S w h (100 * za + 10 * zb + zk).toNat) 11))]))]) (rfl) ?_
          refine hv_pop C dX1_triesClip_50 rfl ?_
          refine hv_iconst C dX1_triesClip_51 (v := zI (1)) rfl ?_
          exact hv_iret C M dX1_triesClip_52 rfl zB_n1 () trivial (hv_rv (by rw [sp_ca_t (by omega) (sp_cn_t (by omega) (by omega) (by omega) hc35)]; rfl)) [] (List.Perm.of_eq (by first | (rw [sp_ca_t (by omega) (sp_cn_t (by omega) (by omega) (by omega) hc35)]; rfl) | (rw [sp_ca_f (fun q => by first | exact hc5 (by omega) | exact hc13 (by omega) | exact hc23 (by omega) | exact hc35 (sp_cn_f (by omega) (by omega) (by omega) q.2))]; rfl))) (Nat.le_refl _) (Nat.le_refl _)
        · refine hv_iconst C dX1_triesClip_38 (v := zI (0)) rfl ?_
          exact hv_iret C M dX1_triesClip_39 rfl zB_n2 () trivial (hv_rv (by rw [sp_ca_f (fun q => by first | exact hc5 (by omega) | exact hc13 (by omega) | exact hc23 (by omega) | exact hc35 (sp_cn_f (by omega) (by omega) (by omega) q.2))]; rfl)) [] (List.Perm.of_eq (by first | (rw [sp_ca_t (by omega) (sp_cn_t (by omega) (by omega) (by omega) hc35)]; rfl) | (rw [sp_ca_f (fun q => by first | exact hc5 (by omega) | exact hc13 (by omega) | exact hc23 (by omega) | exact hc35 (sp_cn_f (by omega) (by omega) (by omega) q.2))]; rfl))) (Nat.le_refl _) (Nat.le_refl _)
