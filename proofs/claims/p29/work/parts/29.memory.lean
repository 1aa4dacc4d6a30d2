set_option maxHeartbeats 4000000 in
set_option maxRecDepth 100000 in
theorem k_X4_init (l : Launch) (D : va_G) (dA : Nat → ClassId) (mm : Nat) : hv_Ct l yX4_init (hw_W yX4_init cX4_init 1 none) 1 D dA [.ref mm] ([(mm, .inr (2, [.null, .int (zI (0)), .int (zI (0))]))]) 1 14 (S := Nat) (fun _ => none) (fun _ => True) (fun u => [(mm, .inr (2, [.ref u, .int (zI (0)), .int (zI (0))])), (u, .inl (dA 5, 14, .inr (.inr (.inr (.inr (fun _ => none))))))]) := by
  refine hv_of (cc := cX4_init) (maxL := 1) (ret := none) (own := RX4) rfl (by decide) rfl (Nat.le_of_ble_eq_true rfl) ?_
  intro p e s m args below meth c C M
  refine hv_lveq (lv' := [(0, .ref mm)]) rfl ?_
  refine hv_aload_n C dX4_init_0 0 rfl ?_
  refine hv_obj C dX4_init_1 (hw_c tw_m_RX4_1) (hw_c tw_i_objectInit) (hw_c tw_k_objectInit) (Nat.le_of_ble_eq_true rfl) ⟨Nat.le_of_ble_eq_true rfl, Nat.le_of_ble_eq_true rfl⟩ ?_
  refine hv_aload_n C dX4_init_4 0 rfl ?_
  refine hv_bipush C dX4_init_5 (v := zI (14)) (by decide +kernel) ?_
  refine hv_newq C dX4_init_7 (hw_c tw_c_RX4_7) C.2.2.2.2.2.1.use 5 rfl (N' := 14) rfl (by decide) (Nat.le_of_ble_eq_true rfl) (Nat.le_of_ble_eq_true rfl) (fun q1 => ?_)
  refine hv_weq (ws' := [(mm, .inr (2, [.null, .int (zI (0)), .int (zI (0))])), (q1, .inl (dA 5, 14, .inr (.inr (.inr (.inr (fun _ => none))))))]) rfl ?_
  refine hv_putF C dX4_init_10 (fun w h => hw_c (tw_u_4 w h)) tyX4 tyX4_ok nmX4 0 (ci := 2) (ty := (.array (.object "HedgeClips$Garden"))) rfl rfl 0 (by decide) (hw_c tw_f_RX4_9) rfl M.2.2 rfl rfl rfl rfl (Nat.le_of_ble_eq_true rfl) ?_
  refine hv_weq (ws' := [(mm, .inr (2, [.ref q1, .int (zI (0)), .int (zI (0))])), (q1, .inl (dA 5, 14, .inr (.inr (.inr (.inr (fun _ => none))))))]) rfl ?_
  exact hv_vret C M dX4_init_13 rfl q1 trivial rfl [] (List.Perm.of_eq (by first | rfl | exact (List.append_nil _).symm)) (Nat.le_refl _) (Nat.le_refl _)

set_option maxHeartbeats 4000000 in
set_option maxRecDepth 100000 in
theorem k_X4_forget (l : Launch) (D : va_G) (dA : Nat → ClassId) (mm rr : Nat) (sz nx : Int) : hv_Ct l yX4_forget (hw_W yX4_forget cX4_forget 1 none) 0 D dA [.ref mm] ([(mm, .inr (2, [.ref rr, .int (zI (sz)), .int (zI (nx))]))]) 0 0 (S := Unit) (fun _ => none) (fun _ => True) (fun _ => [(mm, .inr (2, [.ref rr, .int (zI (0)), .int (zI (nx))]))]) := by
  refine hv_of (cc := cX4_forget) (maxL := 1) (ret := none) (own := RX4) rfl (by decide) rfl (Nat.le_of_ble_eq_true rfl) ?_
  intro p e s m args below meth c C M
  refine hv_lveq (lv' := [(0, .ref mm)]) rfl ?_
  refine hv_aload_n C dX4_forget_0 0 rfl ?_
  refine hv_iconst C dX4_forget_1 (v := zI (0)) rfl ?_
  refine hv_put C dX4_forget_2 (fun w h => hw_c (tw_u_4 w h)) tyX4 tyX4_ok nmX4 0 (ci := 2) (ty := .int) rfl rfl 1 (by decide) (hw_c tw_f_RX4_15) rfl rfl rfl rfl (Nat.le_of_ble_eq_true rfl) ?_
  refine hv_weq (ws' := [(mm, .inr (2, [.ref rr, .int (zI (0)), .int (zI (nx))]))]) rfl ?_
  exact hv_vret C M dX4_forget_5 rfl () trivial rfl [] (List.Perm.of_eq (by first | rfl | exact (List.append_nil _).symm)) (Nat.le_refl _) (Nat.le_refl _)

set_option maxHeartbeats 4000000 in
set_option maxRecDepth 100000 in
theorem k_X4_keep (l : Launch) (D : va_G) (dA : Nat → ClassId) (mm rr g0 g1 g2 : Nat) (g : Nat → Int) (sz nx j : Nat) (al : Nat → Bool) (ga : Nat → Nat × Nat × Nat) (ct : Nat → Nat → Int) (hsz : sz ≤ 14) (hnx : nx ≤ 14) (ej : j = nx % 14) : hv_Ct l yX4_keep (hw_W yX4_keep cX4_keep 3 none) 4 D dA [.ref mm, .ref g0] ([(mm, .inr (2, [.ref rr, .int (zI ((sz : Int))), .int (zI ((nx : Int)))])), (rr, .inl (dA 5, 14, .inr (.inr (.inr (.inr (mo_f al ga)))))), (g0, .inr (0, [.int (zI (g 0)), .int (zI (g 1)), .int (zI (g 2)), .int (zI (g 3)), .int (zI (g 4)), .int (zI (g 5)), .ref g1, .ref g2])), (g1, .inr (1, [.int (zI (g 6)), .int (zI (g 8)), .int (zI (g 10))])), (g2, .inr (1, [.int (zI (g 7)), .int (zI (g 9)), .int (zI (g 11))]))] ++ pl_all 14 (mo_F al ga ct)) 3 14 (S := Nat → Nat × Nat × Nat) (fun _ => none) (fun _ => True) (fun u => [(mm, .inr (2, [.ref rr, .int (zI (((min (sz + 1) 14 : Nat) : Int))), .int (zI (((j + 1 : Nat) : Int)))])), (rr, .inl (dA 5, 14, .inr (.inr (.inr (.inr (mo_f (mo_al al j) u)))))), (g0, .inr (0, [.int (zI (g 0)), .int (zI (g 1)), .int (zI (g 2)), .int (zI (g 3)), .int (zI (g 4)), .int (zI (g 5)), .ref g1, .ref g2])), (g1, .inr (1, [.int (zI (g 6)), .int (zI (g 8)), .int (zI (g 10))])), (g2, .inr (1, [.int (zI (g 7)), .int (zI (g 9)), .int (zI (g 11))]))] ++ pl_all 14 (mo_F (mo_al al j) u (mo_ct ct j g))) := by
  refine hv_of (cc := cX4_keep) (maxL := 3) (ret := none) (own := RX4) rfl (by decide) rfl (Nat.le_of_ble_eq_true rfl) ?_
  intro p e s m args below meth c C M
  refine hv_lveq (lv' := [(0, .ref mm), (1, .ref g0)]) rfl ?_
  refine hv_aload_n C dX4_keep_0 0 rfl ?_
  refine hv_get C dX4_keep_1 (fun w h => hw_c (tw_u_4 w h)) 0 (ci := 2) rfl rfl 2 (by decide) (hw_c tw_f_RX4_19) rfl ?_
  refine hv_if_lt C dX4_keep_4 (tgt := 19) (by decide) (zI_lt0 (by omega)) (fun hc4 => ?_) (fun hc4 => ?_)
  · exfalso; omega
  · refine hv_aload_n C dX4_keep_7 0 rfl ?_
    refine hv_get C dX4_keep_8 (fun w h => hw_c (tw_u_4 w h)) 0 (ci := 2) rfl rfl 2 (by decide) (hw_c tw_f_RX4_19) rfl ?_
    refine hv_aload_n C dX4_keep_11 0 rfl ?_
    refine hv_get C dX4_keep_12 (fun w h => hw_c (tw_u_4 w h)) 0 (ci := 2) rfl rfl 0 (by decide) (hw_c tw_f_RX4_9) rfl ?_
    refine hv_alen C 5 dX4_keep_15 1 rfl rfl (v := zI (14)) (rfl) ?_
    refine hv_icmp_lt C dX4_keep_16 (tgt := 24) (by decide) (zI_lt (by omega)) (fun hc16 => ?_) (fun hc16 => ?_)
    · refine hv_weq (ws' := [(mm, .inr (2, [.ref rr, .int (zI ((sz : Int))), .int (zI ((j : Int)))])), (rr, .inl (dA 5, 14, .inr (.inr (.inr (.inr (mo_f al ga)))))), (g0, .inr (0, [.int (zI (g 0)), .int (zI (g 1)), .int (zI (g 2)), .int (zI (g 3)), .int (zI (g 4)), .int (zI (g 5)), .ref g1, .ref g2])), (g1, .inr (1, [.int (zI (g 6)), .int (zI (g 8)), .int (zI (g 10))])), (g2, .inr (1, [.int (zI (g 7)), .int (zI (g 9)), .int (zI (g 11))]))] ++ pl_all 14 (mo_F al ga ct)) (by obtain rfl : j = nx := (by omega); rfl) ?_
      refine hv_aload_n C dX4_keep_24 0 rfl ?_
      refine hv_get C dX4_keep_25 (fun w h => hw_c (tw_u_4 w h)) 0 (ci := 2) rfl rfl 0 (by decide) (hw_c tw_f_RX4_9) rfl ?_
      refine hv_aload_n C dX4_keep_28 0 rfl ?_
      refine hv_get C dX4_keep_29 (fun w h => hw_c (tw_u_4 w h)) 0 (ci := 2) rfl rfl 2 (by decide) (hw_c tw_f_RX4_19) rfl ?_
      cases haj : al j
      · refine hv_aald C dX4_keep_32 1 5 rfl rfl (j) (zI_ix (by omega)) (by omega) (by omega) ?_
        refine hv_eqst (st' := [.null]) (by unfold mo_f; rw [haj]; rfl) ?_
        refine hv_astoreN_n C dX4_keep_33 (lw := [(2, .null), (0, .ref mm), (1, .ref g0)]) (by decide) rfl ?_
        refine hv_aloadN_n C dX4_keep_34 0 rfl ?_
        refine hv_ifnonnullN C dX4_keep_35 (tgt := 56) (by decide) ?_
        refine hv_new C (ci := 0) (fs := [.int (zI (0)), .int (zI (0)), .int (zI (0)), .int (zI (0)), .int (zI (0)), .int (zI (0)), .null, .null]) dX4_keep_38 (fun w h => hw_c (tw_u_1 w h)) tyX1 tyX1_ok (hw_c tw_c_RX4_7) (hw_c tw_z_RX1) (hw_c tw_n_RX1) rfl (fun j hj => by rcases (show j = 0 ∨ j = 1 ∨ j = 2 ∨ j = 3 ∨ j = 4 ∨ j = 5 ∨ j = 6 ∨ j = 7 by omega) with rfl | rfl | rfl | rfl | rfl | rfl | rfl | rfl <;> rfl) (Nat.le_of_ble_eq_true rfl) (Nat.le_of_ble_eq_true rfl) (fun q0 => ?_)
        refine hv_perm (ws' := [(mm, .inr (2, [.ref rr, .int (zI ((sz : Int))), .int (zI ((j : Int)))])), (rr, .inl (dA 5, 14, .inr (.inr (.inr (.inr (mo_f al ga)))))), (g0, .inr (0, [.int (zI (g 0)), .int (zI (g 1)), .int (zI (g 2)), .int (zI (g 3)), .int (zI (g 4)), .int (zI (g 5)), .ref g1, .ref g2])), (g1, .inr (1, [.int (zI (g 6)), .int (zI (g 8)), .int (zI (g 10))])), (g2, .inr (1, [.int (zI (g 7)), .int (zI (g 9)), .int (zI (g 11))])), (q0, .inr (0, [.int (zI (0)), .int (zI (0)), .int (zI (0)), .int (zI (0)), .int (zI (0)), .int (zI (0)), .null, .null]))] ++ pl_all 14 (mo_F al ga ct)) (hv_tl _ _ _) ?_
        refine hv_dup C dX4_keep_41 rfl ?_
        refine hv_callI (As := []) (rest := [.ref q0]) (wc := [(q0, .inr (0, [.int (zI (0)), .int (zI (0)), .int (zI (0)), .int (zI (0)), .int (zI (0)), .int (zI (0)), .null, .null]))]) (wr := [(mm, .inr (2, [.ref rr, .int (zI ((sz : Int))), .int (zI ((j : Int)))])), (rr, .inl (dA 5, 14, .inr (.inr (.inr (.inr (mo_f al ga)))))), (g0, .inr (0, [.int (zI (g 0)), .int (zI (g 1)), .int (zI (g 2)), .int (zI (g 3)), .int (zI (g 4)), .int (zI (g 5)), .ref g1, .ref g2])), (g1, .inr (1, [.int (zI (g 6)), .int (zI (g 8)), .int (zI (g 10))])), (g2, .inr (1, [.int (zI (g 7)), .int (zI (g 9)), .int (zI (g 11))]))] ++ pl_all 14 (mo_F al ga ct)) C (k_X1_init l D dA q0) (cwI 0 C.1.2.2.2.2 (hw_good tw_k_X1_init) rfl rfl rfl (C.1.2.2.2.2 _ (hw_c tw_n_RX1)) (C.1.2.2.2.2 _ (hw_c tw_m_RX4_22)) (C.1.2.2.2.2 _ (hw_c tw_i_X1_init)) rfl (by decide +kernel) ⟨Nat.le_of_ble_eq_true rfl, Nat.le_of_ble_eq_true rfl⟩) (hv_pm [5] rfl) rfl rfl (Nat.le_of_ble_eq_true rfl) dX4_keep_42 ⟨Nat.le_of_ble_eq_true rfl, Nat.le_of_ble_eq_true rfl⟩ (fun u9 _ => ?_)
        refine hv_eqst (st' := [.ref q0]) rfl ?_
        refine hv_weq (ws' := [(q0, .inr (0, [.int (zI (sp_new 4 170 0)), .int (zI (sp_new 4 170 1)), .int (zI (sp_new 4 170 2)), .int (zI (sp_new 4 170 3)), .int (zI (sp_new 4 170 4)), .int (zI (sp_new 4 170 5)), .ref u9.1, .ref u9.2])), (u9.1, .inr (1, [.int (zI (sp_new 4 170 6)), .int (zI (sp_new 4 170 8)), .int (zI (sp_new 4 170 10))])), (u9.2, .inr (1, [.int (zI (sp_new 4 170 7)), .int (zI (sp_new 4 170 9)), .int (zI (sp_new 4 170 11))])), (mm, .inr (2, [.ref rr, .int (zI ((sz : Int))), .int (zI ((j : Int)))])), (rr, .inl (dA 5, 14, .inr (.inr (.inr (.inr (mo_f al ga)))))), (g0, .inr (0, [.int (zI (g 0)), .int (zI (g 1)), .int (zI (g 2)), .int (zI (g 3)), .int (zI (g 4)), .int (zI (g 5)), .ref g1, .ref g2])), (g1, .inr (1, [.int (zI (g 6)), .int (zI (g 8)), .int (zI (g 10))])), (g2, .inr (1, [.int (zI (g 7)), .int (zI (g 9)), .int (zI (g 11))]))] ++ pl_all 14 (mo_F al ga ct)) (rfl) ?_
        refine hv_srt [3, 3, 3, 3, 3, 0, 0, 0] (ws' := [(mm, .inr (2, [.ref rr, .int (zI ((sz : Int))), .int (zI ((j : Int)))])), (rr, .inl (dA 5, 14, .inr (.inr (.inr (.inr (mo_f al ga)))))), (g0, .inr (0, [.int (zI (g 0)), .int (zI (g 1)), .int (zI (g 2)), .int (zI (g 3)), .int (zI (g 4)), .int (zI (g 5)), .ref g1, .ref g2])), (g1, .inr (1, [.int (zI (g 6)), .int (zI (g 8)), .int (zI (g 10))])), (g2, .inr (1, [.int (zI (g 7)), .int (zI (g 9)), .int (zI (g 11))])), (q0, .inr (0, [.int (zI (sp_new 4 170 0)), .int (zI (sp_new 4 170 1)), .int (zI (sp_new 4 170 2)), .int (zI (sp_new 4 170 3)), .int (zI (sp_new 4 170 4)), .int (zI (sp_new 4 170 5)), .ref u9.1, .ref u9.2])), (u9.1, .inr (1, [.int (zI (sp_new 4 170 6)), .int (zI (sp_new 4 170 8)), .int (zI (sp_new 4 170 10))])), (u9.2, .inr (1, [.int (zI (sp_new 4 170 7)), .int (zI (sp_new 4 170 9)), .int (zI (sp_new 4 170 11))]))] ++ pl_all 14 (mo_F al ga ct)) rfl ?_
        refine hv_astore_n C dX4_keep_45 (lw := [(2, .ref q0), (0, .ref mm), (1, .ref g0)]) (by decide) rfl ?_
        refine hv_aload_n C dX4_keep_46 1 rfl ?_
        refine hv_get C dX4_keep_47 (fun w h => hw_c (tw_u_4 w h)) 0 (ci := 2) rfl rfl 0 (by decide) (hw_c tw_f_RX4_9) rfl ?_
        refine hv_aload_n C dX4_keep_50 1 rfl ?_
        refine hv_get C dX4_keep_51 (fun w h => hw_c (tw_u_4 w h)) 0 (ci := 2) rfl rfl 2 (by decide) (hw_c tw_f_RX4_19) rfl ?_
        refine hv_aload_n C dX4_keep_54 0 rfl ?_
        refine hv_aast C dX4_keep_55 1 5 5 0 rfl rfl rfl rfl (j) (zI_ix (by omega)) (by omega) (by omega) ?_
        refine hv_weq (ws' := [(mm, .inr (2, [.ref rr, .int (zI ((sz : Int))), .int (zI ((j : Int)))])), (rr, .inl (dA 5, 14, .inr (.inr (.inr (.inr (va_up (mo_f al ga) j (some q0))))))), (g0, .inr (0, [.int (zI (g 0)), .int (zI (g 1)), .int (zI (g 2)), .int (zI (g 3)), .int (zI (g 4)), .int (zI (g 5)), .ref g1, .ref g2])), (g1, .inr (1, [.int (zI (g 6)), .int (zI (g 8)), .int (zI (g 10))])), (g2, .inr (1, [.int (zI (g 7)), .int (zI (g 9)), .int (zI (g 11))])), (q0, .inr (0, [.int (zI (sp_new 4 170 0)), .int (zI (sp_new 4 170 1)), .int (zI (sp_new 4 170 2)), .int (zI (sp_new 4 170 3)), .int (zI (sp_new 4 170 4)), .int (zI (sp_new 4 170 5)), .ref u9.1, .ref u9.2])), (u9.1, .inr (1, [.int (zI (sp_new 4 170 6)), .int (zI (sp_new 4 170 8)), .int (zI (sp_new 4 170 10))])), (u9.2, .inr (1, [.int (zI (sp_new 4 170 7)), .int (zI (sp_new 4 170 9)), .int (zI (sp_new 4 170 11))]))] ++ pl_all 14 (mo_F al ga ct)) (rfl) ?_
        refine hv_aload_n C dX4_keep_56 0 rfl ?_
        refine hv_aload_n C dX4_keep_57 2 rfl ?_
        refine hv_perm (ws' := [(mm, .inr (2, [.ref rr, .int (zI ((sz : Int))), .int (zI ((j : Int)))])), (rr, .inl (dA 5, 14, .inr (.inr (.inr (.inr (va_up (mo_f al ga) j (some q0))))))), (g0, .inr (0, [.int (zI (g 0)), .int (zI (g 1)), .int (zI (g 2)), .int (zI (g 3)), .int (zI (g 4)), .int (zI (g 5)), .ref g1, .ref g2])), (g1, .inr (1, [.int (zI (g 6)), .int (zI (g 8)), .int (zI (g 10))])), (g2, .inr (1, [.int (zI (g 7)), .int (zI (g 9)), .int (zI (g 11))])), (q0, .inr (0, [.int (zI (sp_new 4 170 0)), .int (zI (sp_new 4 170 1)), .int (zI (sp_new 4 170 2)), .int (zI (sp_new 4 170 3)), .int (zI (sp_new 4 170 4)), .int (zI (sp_new 4 170 5)), .ref u9.1, .ref u9.2])), (u9.1, .inr (1, [.int (zI (sp_new 4 170 6)), .int (zI (sp_new 4 170 8)), .int (zI (sp_new 4 170 10))])), (u9.2, .inr (1, [.int (zI (sp_new 4 170 7)), .int (zI (sp_new 4 170 9)), .int (zI (sp_new 4 170 11))]))] ++ pl_but 14 j (mo_F al ga ct)) (pl_outL [(mm, .inr (2, [.ref rr, .int (zI ((sz : Int))), .int (zI ((j : Int)))])), (rr, .inl (dA 5, 14, .inr (.inr (.inr (.inr (va_up (mo_f al ga) j (some q0))))))), (g0, .inr (0, [.int (zI (g 0)), .int (zI (g 1)), .int (zI (g 2)), .int (zI (g 3)), .int (zI (g 4)), .int (zI (g 5)), .ref g1, .ref g2])), (g1, .inr (1, [.int (zI (g 6)), .int (zI (g 8)), .int (zI (g 10))])), (g2, .inr (1, [.int (zI (g 7)), .int (zI (g 9)), .int (zI (g 11))])), (q0, .inr (0, [.int (zI (sp_new 4 170 0)), .int (zI (sp_new 4 170 1)), .int (zI (sp_new 4 170 2)), .int (zI (sp_new 4 170 3)), .int (zI (sp_new 4 170 4)), .int (zI (sp_new 4 170 5)), .ref u9.1, .ref u9.2])), (u9.1, .inr (1, [.int (zI (sp_new 4 170 6)), .int (zI (sp_new 4 170 8)), .int (zI (sp_new 4 170 10))])), (u9.2, .inr (1, [.int (zI (sp_new 4 170 7)), .int (zI (sp_new 4 170 9)), .int (zI (sp_new 4 170 11))]))] [] (by omega) (by unfold mo_F; rw [haj]; rfl)) ?_
        refine hv_callV (As := [.ref g0]) (rest := []) (wc := [(q0, .inr (0, [.int (zI (sp_new 4 170 0)), .int (zI (sp_new 4 170 1)), .int (zI (sp_new 4 170 2)), .int (zI (sp_new 4 170 3)), .int (zI (sp_new 4 170 4)), .int (zI (sp_new 4 170 5)), .ref u9.1, .ref u9.2])), (u9.1, .inr (1, [.int (zI (sp_new 4 170 6)), .int (zI (sp_new 4 170 8)), .int (zI (sp_new 4 170 10))])), (u9.2, .inr (1, [.int (zI (sp_new 4 170 7)), .int (zI (sp_new 4 170 9)), .int (zI (sp_new 4 170 11))])), (g0, .inr (0, [.int (zI (g 0)), .int (zI (g 1)), .int (zI (g 2)), .int (zI (g 3)), .int (zI (g 4)), .int (zI (g 5)), .ref g1, .ref g2])), (g1, .inr (1, [.int (zI (g 6)), .int (zI (g 8)), .int (zI (g 10))])), (g2, .inr (1, [.int (zI (g 7)), .int (zI (g 9)), .int (zI (g 11))]))]) (wr := [(mm, .inr (2, [.ref rr, .int (zI ((sz : Int))), .int (zI ((j : Int)))])), (rr, .inl (dA 5, 14, .inr (.inr (.inr (.inr (va_up (mo_f al ga) j (some q0)))))))] ++ pl_but 14 j (mo_F al ga ct)) C (k_X1_becomes l D dA (q0) (u9.1) (u9.2) g0 g1 g2 (sp_new 4 170) g) (cwV 1 C.1.2.2.2.2 (hw_V tw_m_RX4_23 tw_i_X1_becomes tw_s_X1_becomes tw_n_RX1 tw_k_X1_becomes) rfl rfl rfl (by decide +kernel) ⟨Nat.le_of_ble_eq_true rfl, Nat.le_of_ble_eq_true rfl⟩) (hv_pm [5, 5, 5, 2, 2, 2] rfl) rfl 0 0 rfl rfl rfl (Nat.le_of_ble_eq_true rfl) dX4_keep_58 ⟨Nat.le_of_ble_eq_true rfl, Nat.le_of_ble_eq_true rfl⟩ (fun _ _ => ?_)
        refine hv_eqst (st' := []) rfl ?_
        refine hv_weq (ws' := [(q0, .inr (0, [.int (zI (g 0)), .int (zI (g 1)), .int (zI (g 2)), .int (zI (g 3)), .int (zI (g 4)), .int (zI (g 5)), .ref u9.1, .ref u9.2])), (u9.1, .inr (1, [.int (zI (g 6)), .int (zI (g 8)), .int (zI (g 10))])), (u9.2, .inr (1, [.int (zI (g 7)), .int (zI (g 9)), .int (zI (g 11))])), (g0, .inr (0, [.int (zI (g 0)), .int (zI (g 1)), .int (zI (g 2)), .int (zI (g 3)), .int (zI (g 4)), .int (zI (g 5)), .ref g1, .ref g2])), (g1, .inr (1, [.int (zI (g 6)), .int (zI (g 8)), .int (zI (g 10))])), (g2, .inr (1, [.int (zI (g 7)), .int (zI (g 9)), .int (zI (g 11))])), (mm, .inr (2, [.ref rr, .int (zI ((sz : Int))), .int (zI ((j : Int)))])), (rr, .inl (dA 5, 14, .inr (.inr (.inr (.inr (va_up (mo_f al ga) j (some q0)))))))] ++ pl_but 14 j (mo_F al ga ct)) (rfl) ?_
        refine hv_srt [6, 6, 3, 3, 3, 0, 0, 0] (ws' := [(mm, .inr (2, [.ref rr, .int (zI ((sz : Int))), .int (zI ((j : Int)))])), (rr, .inl (dA 5, 14, .inr (.inr (.inr (.inr (va_up (mo_f al ga) j (some q0))))))), (g0, .inr (0, [.int (zI (g 0)), .int (zI (g 1)), .int (zI (g 2)), .int (zI (g 3)), .int (zI (g 4)), .int (zI (g 5)), .ref g1, .ref g2])), (g1, .inr (1, [.int (zI (g 6)), .int (zI (g 8)), .int (zI (g 10))])), (g2, .inr (1, [.int (zI (g 7)), .int (zI (g 9)), .int (zI (g 11))])), (q0, .inr (0, [.int (zI (g 0)), .int (zI (g 1)), .int (zI (g 2)), .int (zI (g 3)), .int (zI (g 4)), .int (zI (g 5)), .ref u9.1, .ref u9.2])), (u9.1, .inr (1, [.int (zI (g 6)), .int (zI (g 8)), .int (zI (g 10))])), (u9.2, .inr (1, [.int (zI (g 7)), .int (zI (g 9)), .int (zI (g 11))]))] ++ pl_but 14 j (mo_F al ga ct)) rfl ?_
        refine hv_aload_n C dX4_keep_61 1 rfl ?_
        refine hv_dup C dX4_keep_62 rfl ?_
        refine hv_get C dX4_keep_63 (fun w h => hw_c (tw_u_4 w h)) 0 (ci := 2) rfl rfl 2 (by decide) (hw_c tw_f_RX4_19) rfl ?_
        refine hv_iconst C dX4_keep_66 (v := zI (1)) rfl ?_
        refine hv_iadd C dX4_keep_67 (z := zI (((j + 1 : Nat) : Int))) ((zI_add _ _).trans (zI_c (by omega))) ?_
        refine hv_put C dX4_keep_68 (fun w h => hw_c (tw_u_4 w h)) tyX4 tyX4_ok nmX4 0 (ci := 2) (ty := .int) rfl rfl 2 (by decide) (hw_c tw_f_RX4_19) rfl rfl rfl rfl (Nat.le_of_ble_eq_true rfl) ?_
        refine hv_weq (ws' := [(mm, .inr (2, [.ref rr, .int (zI ((sz : Int))), .int (zI (((j + 1 : Nat) : Int)))])), (rr, .inl (dA 5, 14, .inr (.inr (.inr (.inr (va_up (mo_f al ga) j (some q0))))))), (g0, .inr (0, [.int (zI (g 0)), .int (zI (g 1)), .int (zI (g 2)), .int (zI (g 3)), .int (zI (g 4)), .int (zI (g 5)), .ref g1, .ref g2])), (g1, .inr (1, [.int (zI (g 6)), .int (zI (g 8)), .int (zI (g 10))])), (g2, .inr (1, [.int (zI (g 7)), .int (zI (g 9)), .int (zI (g 11))])), (q0, .inr (0, [.int (zI (g 0)), .int (zI (g 1)), .int (zI (g 2)), .int (zI (g 3)), .int (zI (g 4)), .int (zI (g 5)), .ref u9.1, .ref u9.2])), (u9.1, .inr (1, [.int (zI (g 6)), .int (zI (g 8)), .int (zI (g 10))])), (u9.2, .inr (1, [.int (zI (g 7)), .int (zI (g 9)), .int (zI (g 11))]))] ++ pl_but 14 j (mo_F al ga ct)) rfl ?_
        refine hv_aload_n C dX4_keep_71 1 rfl ?_
        refine hv_aload_n C dX4_keep_72 1 rfl ?_
        refine hv_get C dX4_keep_73 (fun w h => hw_c (tw_u_4 w h)) 0 (ci := 2) rfl rfl 1 (by decide) (hw_c tw_f_RX4_15) rfl ?_
        refine hv_iconst C dX4_keep_76 (v := zI (1)) rfl ?_
        refine hv_iadd C dX4_keep_77 (z := zI (((sz + 1 : Nat) : Int))) ((zI_add _ _).trans (zI_c (by omega))) ?_
        refine hv_aload_n C dX4_keep_78 1 rfl ?_
        refine hv_get C dX4_keep_79 (fun w h => hw_c (tw_u_4 w h)) 0 (ci := 2) rfl rfl 0 (by decide) (hw_c tw_f_RX4_9) rfl ?_
        refine hv_alen C 5 dX4_keep_82 1 rfl rfl (v := zI (14)) (rfl) ?_
        refine hv_mmin C dX4_keep_83 (hw_c tw_m_RX4_27) (hw_c tw_t_Lib_Math_min_name) (hw_c tw_n_java_lang_Math) (hw_c tw_k_Lib_Math_min_name) (Nat.le_of_ble_eq_true rfl) (Nat.le_of_ble_eq_true rfl) (by exact Nat.le_of_ble_eq_true rfl) (by exact Nat.le_of_ble_eq_true rfl) (z := zI (((min (sz + 1) 14 : Nat) : Int))) (by rw [zI_min (by omega)]; exact zI_c (by omega)) ?_
        refine hv_put C dX4_keep_86 (fun w h => hw_c (tw_u_4 w h)) tyX4 tyX4_ok nmX4 0 (ci := 2) (ty := .int) rfl rfl 1 (by decide) (hw_c tw_f_RX4_15) rfl rfl rfl rfl (Nat.le_of_ble_eq_true rfl) ?_
        refine hv_weq (ws' := [(mm, .inr (2, [.ref rr, .int (zI (((min (sz + 1) 14 : Nat) : Int))), .int (zI (((j + 1 : Nat) : Int)))])), (rr, .inl (dA 5, 14, .inr (.inr (.inr (.inr (va_up (mo_f al ga) j (some q0))))))), (g0, .inr (0, [.int (zI (g 0)), .int (zI (g 1)), .int (zI (g 2)), .int (zI (g 3)), .int (zI (g 4)), .int (zI (g 5)), .ref g1, .ref g2])), (g1, .inr (1, [.int (zI (g 6)), .int (zI (g 8)), .int (zI (g 10))])), (g2, .inr (1, [.int (zI (g 7)), .int (zI (g 9)), .int (zI (g 11))])), (q0, .inr (0, [.int (zI (g 0)), .int (zI (g 1)), .int (zI (g 2)), .int (zI (g 3)), .int (zI (g 4)), .int (zI (g 5)), .ref u9.1, .ref u9.2])), (u9.1, .inr (1, [.int (zI (g 6)), .int (zI (g 8)), .int (zI (g 10))])), (u9.2, .inr (1, [.int (zI (g 7)), .int (zI (g 9)), .int (zI (g 11))]))] ++ pl_but 14 j (mo_F al ga ct)) rfl ?_
        refine hv_weq (ws' := [(mm, .inr (2, [.ref rr, .int (zI (((min (sz + 1) 14 : Nat) : Int))), .int (zI (((j + 1 : Nat) : Int)))])), (rr, .inl (dA 5, 14, .inr (.inr (.inr (.inr (mo_f (mo_al al j) (mo_ga ga j (q0, u9.1, u9.2)))))))), (g0, .inr (0, [.int (zI (g 0)), .int (zI (g 1)), .int (zI (g 2)), .int (zI (g 3)), .int (zI (g 4)), .int (zI (g 5)), .ref g1, .ref g2])), (g1, .inr (1, [.int (zI (g 6)), .int (zI (g 8)), .int (zI (g 10))])), (g2, .inr (1, [.int (zI (g 7)), .int (zI (g 9)), .int (zI (g 11))])), (q0, .inr (0, [.int (zI (g 0)), .int (zI (g 1)), .int (zI (g 2)), .int (zI (g 3)), .int (zI (g 4)), .int (zI (g 5)), .ref u9.1, .ref u9.2])), (u9.1, .inr (1, [.int (zI (g 6)), .int (zI (g 8)), .int (zI (g 10))])), (u9.2, .inr (1, [.int (zI (g 7)), .int (zI (g 9)), .int (zI (g 11))]))] ++ pl_but 14 j (mo_F al ga ct)) (by rw [← mo_f_new al ga j (q0, u9.1, u9.2)]) ?_
        exact hv_vret C M dX4_keep_89 rfl (mo_ga ga j (q0, u9.1, u9.2)) trivial rfl [] (pl_ret (pl_inL [(mm, .inr (2, [.ref rr, .int (zI (((min (sz + 1) 14 : Nat) : Int))), .int (zI (((j + 1 : Nat) : Int)))])), (rr, .inl (dA 5, 14, .inr (.inr (.inr (.inr (mo_f (mo_al al j) (mo_ga ga j (q0, u9.1, u9.2)))))))), (g0, .inr (0, [.int (zI (g 0)), .int (zI (g 1)), .int (zI (g 2)), .int (zI (g 3)), .int (zI (g 4)), .int (zI (g 5)), .ref g1, .ref g2])), (g1, .inr (1, [.int (zI (g 6)), .int (zI (g 8)), .int (zI (g 10))])), (g2, .inr (1, [.int (zI (g 7)), .int (zI (g 9)), .int (zI (g 11))]))] (G3 q0 u9.1 u9.2 g) (by omega) (by rw [mo_F_here, mo_ga_here]) (mo_F_there (mo_ga_there ga j _)))) (Nat.le_of_ble_eq_true rfl) (Nat.le_of_ble_eq_true rfl)
      · refine hv_aald C dX4_keep_32 1 5 rfl rfl (j) (zI_ix (by omega)) (by omega) (by omega) ?_
        refine hv_eqst (st' := [.ref (ga j).1]) (by unfold mo_f; rw [haj]; rfl) ?_
        refine hv_astore_n C dX4_keep_33 (lw := [(2, .ref (ga j).1), (0, .ref mm), (1, .ref g0)]) (by decide) rfl ?_
        refine hv_aload_n C dX4_keep_34 0 rfl ?_
        refine hv_ifnonnull C dX4_keep_35 (tgt := 56) (by decide) ?_
        refine hv_aload_n C dX4_keep_56 0 rfl ?_
        refine hv_aload_n C dX4_keep_57 2 rfl ?_
        refine hv_perm (ws' := [(mm, .inr (2, [.ref rr, .int (zI ((sz : Int))), .int (zI ((j : Int)))])), (rr, .inl (dA 5, 14, .inr (.inr (.inr (.inr (mo_f al ga)))))), (g0, .inr (0, [.int (zI (g 0)), .int (zI (g 1)), .int (zI (g 2)), .int (zI (g 3)), .int (zI (g 4)), .int (zI (g 5)), .ref g1, .ref g2])), (g1, .inr (1, [.int (zI (g 6)), .int (zI (g 8)), .int (zI (g 10))])), (g2, .inr (1, [.int (zI (g 7)), .int (zI (g 9)), .int (zI (g 11))])), ((ga j).1, .inr (0, [.int (zI (ct j 0)), .int (zI (ct j 1)), .int (zI (ct j 2)), .int (zI (ct j 3)), .int (zI (ct j 4)), .int (zI (ct j 5)), .ref (ga j).2.1, .ref (ga j).2.2])), ((ga j).2.1, .inr (1, [.int (zI (ct j 6)), .int (zI (ct j 8)), .int (zI (ct j 10))])), ((ga j).2.2, .inr (1, [.int (zI (ct j 7)), .int (zI (ct j 9)), .int (zI (ct j 11))]))] ++ pl_but 14 j (mo_F al ga ct)) (pl_outL [(mm, .inr (2, [.ref rr, .int (zI ((sz : Int))), .int (zI ((j : Int)))])), (rr, .inl (dA 5, 14, .inr (.inr (.inr (.inr (mo_f al ga)))))), (g0, .inr (0, [.int (zI (g 0)), .int (zI (g 1)), .int (zI (g 2)), .int (zI (g 3)), .int (zI (g 4)), .int (zI (g 5)), .ref g1, .ref g2])), (g1, .inr (1, [.int (zI (g 6)), .int (zI (g 8)), .int (zI (g 10))])), (g2, .inr (1, [.int (zI (g 7)), .int (zI (g 9)), .int (zI (g 11))]))] (G3 (ga j).1 (ga j).2.1 (ga j).2.2 (ct j)) (by omega) (by unfold mo_F; rw [haj]; rfl)) ?_
        refine hv_callV (As := [.ref g0]) (rest := []) (wc := [((ga j).1, .inr (0, [.int (zI (ct j 0)), .int (zI (ct j 1)), .int (zI (ct j 2)), .int (zI (ct j 3)), .int (zI (ct j 4)), .int (zI (ct j 5)), .ref (ga j).2.1, .ref (ga j).2.2])), ((ga j).2.1, .inr (1, [.int (zI (ct j 6)), .int (zI (ct j 8)), .int (zI (ct j 10))])), ((ga j).2.2, .inr (1, [.int (zI (ct j 7)), .int (zI (ct j 9)), .int (zI (ct j 11))])), (g0, .inr (0, [.int (zI (g 0)), .int (zI (g 1)), .int (zI (g 2)), .int (zI (g 3)), .int (zI (g 4)), .int (zI (g 5)), .ref g1, .ref g2])), (g1, .inr (1, [.int (zI (g 6)), .int (zI (g 8)), .int (zI (g 10))])), (g2, .inr (1, [.int (zI (g 7)), .int (zI (g 9)), .int (zI (g 11))]))]) (wr := [(mm, .inr (2, [.ref rr, .int (zI ((sz : Int))), .int (zI ((j : Int)))])), (rr, .inl (dA 5, 14, .inr (.inr (.inr (.inr (mo_f al ga))))))] ++ pl_but 14 j (mo_F al ga ct)) C (k_X1_becomes l D dA ((ga j).1) ((ga j).2.1) ((ga j).2.2) g0 g1 g2 (ct j) g) (cwV 1 C.1.2.2.2.2 (hw_V tw_m_RX4_23 tw_i_X1_becomes tw_s_X1_becomes tw_n_RX1 tw_k_X1_becomes) rfl rfl rfl (by decide +kernel) ⟨Nat.le_of_ble_eq_true rfl, Nat.le_of_ble_eq_true rfl⟩) (hv_pm [5, 5, 5, 2, 2, 2] rfl) rfl 0 0 rfl rfl rfl (Nat.le_of_ble_eq_true rfl) dX4_keep_58 ⟨Nat.le_of_ble_eq_true rfl, Nat.le_of_ble_eq_true rfl⟩ (fun _ _ => ?_)
        refine hv_eqst (st' := []) rfl ?_
        refine hv_weq (ws' := [((ga j).1, .inr (0, [.int (zI (g 0)), .int (zI (g 1)), .int (zI (g 2)), .int (zI (g 3)), .int (zI (g 4)), .int (zI (g 5)), .ref (ga j).2.1, .ref (ga j).2.2])), ((ga j).2.1, .inr (1, [.int (zI (g 6)), .int (zI (g 8)), .int (zI (g 10))])), ((ga j).2.2, .inr (1, [.int (zI (g 7)), .int (zI (g 9)), .int (zI (g 11))])), (g0, .inr (0, [.int (zI (g 0)), .int (zI (g 1)), .int (zI (g 2)), .int (zI (g 3)), .int (zI (g 4)), .int (zI (g 5)), .ref g1, .ref g2])), (g1, .inr (1, [.int (zI (g 6)), .int (zI (g 8)), .int (zI (g 10))])), (g2, .inr (1, [.int (zI (g 7)), .int (zI (g 9)), .int (zI (g 11))])), (mm, .inr (2, [.ref rr, .int (zI ((sz : Int))), .int (zI ((j : Int)))])), (rr, .inl (dA 5, 14, .inr (.inr (.inr (.inr (mo_f al ga))))))] ++ pl_but 14 j (mo_F al ga ct)) (rfl) ?_
        refine hv_srt [6, 6, 3, 3, 3, 0, 0, 0] (ws' := [(mm, .inr (2, [.ref rr, .int (zI ((sz : Int))), .int (zI ((j : Int)))])), (rr, .inl (dA 5, 14, .inr (.inr (.inr (.inr (mo_f al ga)))))), (g0, .inr (0, [.int (zI (g 0)), .int (zI (g 1)), .int (zI (g 2)), .int (zI (g 3)), .int (zI (g 4)), .int (zI (g 5)), .ref g1, .ref g2])), (g1, .inr (1, [.int (zI (g 6)), .int (zI (g 8)), .int (zI (g 10))])), (g2, .inr (1, [.int (zI (g 7)), .int (zI (g 9)), .int (zI (g 11))])), ((ga j).1, .inr (0, [.int (zI (g 0)), .int (zI (g 1)), .int (zI (g 2)), .int (zI (g 3)), .int (zI (g 4)), .int (zI (g 5)), .ref (ga j).2.1, .ref (ga j).2.2])), ((ga j).2.1, .inr (1, [.int (zI (g 6)), .int (zI (g 8)), .int (zI (g 10))])), ((ga j).2.2, .inr (1, [.int (zI (g 7)), .int (zI (g 9)), .int (zI (g 11))]))] ++ pl_but 14 j (mo_F al ga ct)) rfl ?_
        refine hv_aload_n C dX4_keep_61 1 rfl ?_
        refine hv_dup C dX4_keep_62 rfl ?_
        refine hv_get C dX4_keep_63 (fun w h => hw_c (tw_u_4 w h)) 0 (ci := 2) rfl rfl 2 (by decide) (hw_c tw_f_RX4_19) rfl ?_
        refine hv_iconst C dX4_keep_66 (v := zI (1)) rfl ?_
        refine hv_iadd C dX4_keep_67 (z := zI (((j + 1 : Nat) : Int))) ((zI_add _ _).trans (zI_c (by omega))) ?_
        refine hv_put C dX4_keep_68 (fun w h => hw_c (tw_u_4 w h)) tyX4 tyX4_ok nmX4 0 (ci := 2) (ty := .int) rfl rfl 2 (by decide) (hw_c tw_f_RX4_19) rfl rfl rfl rfl (Nat.le_of_ble_eq_true rfl) ?_
        refine hv_weq (ws' := [(mm, .inr (2, [.ref rr, .int (zI ((sz : Int))), .int (zI (((j + 1 : Nat) : Int)))])), (rr, .inl (dA 5, 14, .inr (.inr (.inr (.inr (mo_f al ga)))))), (g0, .inr (0, [.int (zI (g 0)), .int (zI (g 1)), .int (zI (g 2)), .int (zI (g 3)), .int (zI (g 4)), .int (zI (g 5)), .ref g1, .ref g2])), (g1, .inr (1, [.int (zI (g 6)), .int (zI (g 8)), .int (zI (g 10))])), (g2, .inr (1, [.int (zI (g 7)), .int (zI (g 9)), .int (zI (g 11))])), ((ga j).1, .inr (0, [.int (zI (g 0)), .int (zI (g 1)), .int (zI (g 2)), .int (zI (g 3)), .int (zI (g 4)), .int (zI (g 5)), .ref (ga j).2.1, .ref (ga j).2.2])), ((ga j).2.1, .inr (1, [.int (zI (g 6)), .int (zI (g 8)), .int (zI (g 10))])), ((ga j).2.2, .inr (1, [.int (zI (g 7)), .int (zI (g 9)), .int (zI (g 11))]))] ++ pl_but 14 j (mo_F al ga ct)) rfl ?_
        refine hv_aload_n C dX4_keep_71 1 rfl ?_
        refine hv_aload_n C dX4_keep_72 1 rfl ?_
        refine hv_get C dX4_keep_73 (fun w h => hw_c (tw_u_4 w h)) 0 (ci := 2) rfl rfl 1 (by decide) (hw_c tw_f_RX4_15) rfl ?_
        refine hv_iconst C dX4_keep_76 (v := zI (1)) rfl ?_
        refine hv_iadd C dX4_keep_77 (z := zI (((sz + 1 : Nat) : Int))) ((zI_add _ _).trans (zI_c (by omega))) ?_
        refine hv_aload_n C dX4_keep_78 1 rfl ?_
        refine hv_get C dX4_keep_79 (fun w h => hw_c (tw_u_4 w h)) 0 (ci := 2) rfl rfl 0 (by decide) (hw_c tw_f_RX4_9) rfl ?_
        refine hv_alen C 5 dX4_keep_82 1 rfl rfl (v := zI (14)) (rfl) ?_
        refine hv_mmin C dX4_keep_83 (hw_c tw_m_RX4_27) (hw_c tw_t_Lib_Math_min_name) (hw_c tw_n_java_lang_Math) (hw_c tw_k_Lib_Math_min_name) (Nat.le_of_ble_eq_true rfl) (Nat.le_of_ble_eq_true rfl) (by exact Nat.le_of_ble_eq_true rfl) (by exact Nat.le_of_ble_eq_true rfl) (z := zI (((min (sz + 1) 14 : Nat) : Int))) (by rw [zI_min (by omega)]; exact zI_c (by omega)) ?_
        refine hv_put C dX4_keep_86 (fun w h => hw_c (tw_u_4 w h)) tyX4 tyX4_ok nmX4 0 (ci := 2) (ty := .int) rfl rfl 1 (by decide) (hw_c tw_f_RX4_15) rfl rfl rfl rfl (Nat.le_of_ble_eq_true rfl) ?_
        refine hv_weq (ws' := [(mm, .inr (2, [.ref rr, .int (zI (((min (sz + 1) 14 : Nat) : Int))), .int (zI (((j + 1 : Nat) : Int)))])), (rr, .inl (dA 5, 14, .inr (.inr (.inr (.inr (mo_f al ga)))))), (g0, .inr (0, [.int (zI (g 0)), .int (zI (g 1)), .int (zI (g 2)), .int (zI (g 3)), .int (zI (g 4)), .int (zI (g 5)), .ref g1, .ref g2])), (g1, .inr (1, [.int (zI (g 6)), .int (zI (g 8)), .int (zI (g 10))])), (g2, .inr (1, [.int (zI (g 7)), .int (zI (g 9)), .int (zI (g 11))])), ((ga j).1, .inr (0, [.int (zI (g 0)), .int (zI (g 1)), .int (zI (g 2)), .int (zI (g 3)), .int (zI (g 4)), .int (zI (g 5)), .ref (ga j).2.1, .ref (ga j).2.2])), ((ga j).2.1, .inr (1, [.int (zI (g 6)), .int (zI (g 8)), .int (zI (g 10))])), ((ga j).2.2, .inr (1, [.int (zI (g 7)), .int (zI (g 9)), .int (zI (g 11))]))] ++ pl_but 14 j (mo_F al ga ct)) rfl ?_
        refine hv_weq (ws' := [(mm, .inr (2, [.ref rr, .int (zI (((min (sz + 1) 14 : Nat) : Int))), .int (zI (((j + 1 : Nat) : Int)))])), (rr, .inl (dA 5, 14, .inr (.inr (.inr (.inr (mo_f (mo_al al j) ga)))))), (g0, .inr (0, [.int (zI (g 0)), .int (zI (g 1)), .int (zI (g 2)), .int (zI (g 3)), .int (zI (g 4)), .int (zI (g 5)), .ref g1, .ref g2])), (g1, .inr (1, [.int (zI (g 6)), .int (zI (g 8)), .int (zI (g 10))])), (g2, .inr (1, [.int (zI (g 7)), .int (zI (g 9)), .int (zI (g 11))])), ((ga j).1, .inr (0, [.int (zI (g 0)), .int (zI (g 1)), .int (zI (g 2)), .int (zI (g 3)), .int (zI (g 4)), .int (zI (g 5)), .ref (ga j).2.1, .ref (ga j).2.2])), ((ga j).2.1, .inr (1, [.int (zI (g 6)), .int (zI (g 8)), .int (zI (g 10))])), ((ga j).2.2, .inr (1, [.int (zI (g 7)), .int (zI (g 9)), .int (zI (g 11))]))] ++ pl_but 14 j (mo_F al ga ct)) (by rw [mo_f_old haj]) ?_
        exact hv_vret C M dX4_keep_89 rfl ga trivial rfl [] (pl_ret (pl_inL [(mm, .inr (2, [.ref rr, .int (zI (((min (sz + 1) 14 : Nat) : Int))), .int (zI (((j + 1 : Nat) : Int)))])), (rr, .inl (dA 5, 14, .inr (.inr (.inr (.inr (mo_f (mo_al al j) ga)))))), (g0, .inr (0, [.int (zI (g 0)), .int (zI (g 1)), .int (zI (g 2)), .int (zI (g 3)), .int (zI (g 4)), .int (zI (g 5)), .ref g1, .ref g2])), (g1, .inr (1, [.int (zI (g 6)), .int (zI (g 8)), .int (zI (g 10))])), (g2, .inr (1, [.int (zI (g 7)), .int (zI (g 9)), .int (zI (g 11))]))] (G3 (ga j).1 (ga j).2.1 (ga j).2.2 g) (by omega) mo_F_here (mo_F_there (fun _ _ => rfl)))) (Nat.le_of_ble_eq_true rfl) (Nat.le_of_ble_eq_true rfl)
    · refine hv_aload_n C dX4_keep_19 0 rfl ?_
      refine hv_iconst C dX4_keep_20 (v := zI (0)) rfl ?_
      refine hv_put C dX4_keep_21 (fun w h => hw_c (tw_u_4 w h)) tyX4 tyX4_ok nmX4 0 (ci := 2) (ty := .int) rfl rfl 2 (by decide) (hw_c tw_f_RX4_19) rfl rfl rfl rfl (Nat.le_of_ble_eq_true rfl) ?_
      refine hv_weq (ws' := [(mm, .inr (2, [.ref rr, .int (zI ((sz : Int))), .int (zI (0))])), (rr, .inl (dA 5, 14, .inr (.inr (.inr (.inr (mo_f al ga)))))), (g0, .inr (0, [.int (zI (g 0)), .int (zI (g 1)), .int (zI (g 2)), .int (zI (g 3)), .int (zI (g 4)), .int (zI (g 5)), .ref g1, .ref g2])), (g1, .inr (1, [.int (zI (g 6)), .int (zI (g 8)), .int (zI (g 10))])), (g2, .inr (1, [.int (zI (g 7)), .int (zI (g 9)), .int (zI (g 11))]))] ++ pl_all 14 (mo_F al ga ct)) rfl ?_
      refine hv_weq (ws' := [(mm, .inr (2, [.ref rr, .int (zI ((sz : Int))), .int (zI ((j : Int)))])), (rr, .inl (dA 5, 14, .inr (.inr (.inr (.inr (mo_f al ga)))))), (g0, .inr (0, [.int (zI (g 0)), .int (zI (g 1)), .int (zI (g 2)), .int (zI (g 3)), .int (zI (g 4)), .int (zI (g 5)), .ref g1, .ref g2])), (g1, .inr (1, [.int (zI (g 6)), .int (zI (g 8)), .int (zI (g 10))])), (g2, .inr (1, [.int (zI (g 7)), .int (zI (g 9)), .int (zI (g 11))]))] ++ pl_all 14 (mo_F al ga ct)) (by obtain rfl : j = 0 := (by omega); rfl) ?_
      refine hv_aload_n C dX4_keep_24 0 rfl ?_
      refine hv_get C dX4_keep_25 (fun w h => hw_c (tw_u_4 w h)) 0 (ci := 2) rfl rfl 0 (by decide) (hw_c tw_f_RX4_9) rfl ?_
      refine hv_aload_n C dX4_keep_28 0 rfl ?_
      refine hv_get C dX4_keep_29 (fun w h => hw_c (tw_u_4 w h)) 0 (ci := 2) rfl rfl 2 (by decide) (hw_c tw_f_RX4_19) rfl ?_
      cases haj : al j
      · refine hv_aald C dX4_keep_32 1 5 rfl rfl (j) (zI_ix (by omega)) (by omega) (by omega) ?_
        refine hv_eqst (st' := [.null]) (by unfold mo_f; rw [haj]; rfl) ?_
        refine hv_astoreN_n C dX4_keep_33 (lw := [(2, .null), (0, .ref mm), (1, .ref g0)]) (by decide) rfl ?_
        refine hv_aloadN_n C dX4_keep_34 0 rfl ?_
        refine hv_ifnonnullN C dX4_keep_35 (tgt := 56) (by decide) ?_
        refine hv_new C (ci := 0) (fs := [.int (zI (0)), .int (zI (0)), .int (zI (0)), .int (zI (0)), .int (zI (0)), .int (zI (0)), .null, .null]) dX4_keep_38 (fun w h => hw_c (tw_u_1 w h)) tyX1 tyX1_ok (hw_c tw_c_RX4_7) (hw_c tw_z_RX1) (hw_c tw_n_RX1) rfl (fun j hj => by rcases (show j = 0 ∨ j = 1 ∨ j = 2 ∨ j = 3 ∨ j = 4 ∨ j = 5 ∨ j = 6 ∨ j = 7 by omega) with rfl | rfl | rfl | rfl | rfl | rfl | rfl | rfl <;> rfl) (Nat.le_of_ble_eq_true rfl) (Nat.le_of_ble_eq_true rfl) (fun q0 => ?_)
        refine hv_perm (ws' := [(mm, .inr (2, [.ref rr, .int (zI ((sz : Int))), .int (zI ((j : Int)))])), (rr, .inl (dA 5, 14, .inr (.inr (.inr (.inr (mo_f al ga)))))), (g0, .inr (0, [.int (zI (g 0)), .int (zI (g 1)), .int (zI (g 2)), .int (zI (g 3)), .int (zI (g 4)), .int (zI (g 5)), .ref g1, .ref g2])), (g1, .inr (1, [.int (zI (g 6)), .int (zI (g 8)), .int (zI (g 10))])), (g2, .inr (1, [.int (zI (g 7)), .int (zI (g 9)), .int (zI (g 11))])), (q0, .inr (0, [.int (zI (0)), .int (zI (0)), .int (zI (0)), .int (zI (0)), .int (zI (0)), .int (zI (0)), .null, .null]))] ++ pl_all 14 (mo_F al ga ct)) (hv_tl _ _ _) ?_
        refine hv_dup C dX4_keep_41 rfl ?_
        refine hv_callI (As := []) (rest := [.ref q0]) (wc := [(q0, .inr (0, [.int (zI (0)), .int (zI (0)), .int (zI (0)), .int (zI (0)), .int (zI (0)), .int (zI (0)), .null, .null]))]) (wr := [(mm, .inr (2, [.ref rr, .int (zI ((sz : Int))), .int (zI ((j : Int)))])), (rr, .inl (dA 5, 14, .inr (.inr (.inr (.inr (mo_f al ga)))))), (g0, .inr (0, [.int (zI (g 0)), .int (zI (g 1)), .int (zI (g 2)), .int (zI (g 3)), .int (zI (g 4)), .int (zI (g 5)), .ref g1, .ref g2])), (g1, .inr (1, [.int (zI (g 6)), .int (zI (g 8)), .int (zI (g 10))])), (g2, .inr (1, [.int (zI (g 7)), .int (zI (g 9)), .int (zI (g 11))]))] ++ pl_all 14 (mo_F al ga ct)) C (k_X1_init l D dA q0) (cwI 0 C.1.2.2.2.2 (hw_good tw_k_X1_init) rfl rfl rfl (C.1.2.2.2.2 _ (hw_c tw_n_RX1)) (C.1.2.2.2.2 _ (hw_c tw_m_RX4_22)) (C.1.2.2.2.2 _ (hw_c tw_i_X1_init)) rfl (by decide +kernel) ⟨Nat.le_of_ble_eq_true rfl, Nat.le_of_ble_eq_true rfl⟩) (hv_pm [5] rfl) rfl rfl (Nat.le_of_ble_eq_true rfl) dX4_keep_42 ⟨Nat.le_of_ble_eq_true rfl, Nat.le_of_ble_eq_true rfl⟩ (fun u9 _ => ?_)
        refine hv_eqst (st' := [.ref q0]) rfl ?_
        refine hv_weq (ws' := [(q0, .inr (0, [.int (zI (sp_new 4 170 0)), .int (zI (sp_new 4 170 1)), .int (zI (sp_new 4 170 2)), .int (zI (sp_new 4 170 3)), .int (zI (sp_new 4 170 4)), .int (zI (sp_new 4 170 5)), .ref u9.1, .ref u9.2])), (u9.1, .inr (1, [.int (zI (sp_new 4 170 6)), .int (zI (sp_new 4 170 8)), .int (zI (sp_new 4 170 10))])), (u9.2, .inr (1, [.int (zI (sp_new 4 170 7)), .int (zI (sp_new 4 170 9)), .int (zI (sp_new 4 170 11))])), (mm, .inr (2, [.ref rr, .int (zI ((sz : Int))), .int (zI ((j : Int)))])), (rr, .inl (dA 5, 14, .inr (.inr (.inr (.inr (mo_f al ga)))))), (g0, .inr (0, [.int (zI (g 0)), .int (zI (g 1)), .int (zI (g 2)), .int (zI (g 3)), .int (zI (g 4)), .int (zI (g 5)), .ref g1, .ref g2])), (g1, .inr (1, [.int (zI (g 6)), .int (zI (g 8)), .int (zI (g 10))])), (g2, .inr (1, [.int (zI (g 7)), .int (zI (g 9)), .int (zI (g 11))]))] ++ pl_all 14 (mo_F al ga ct)) (rfl) ?_
        refine hv_srt [3, 3, 3, 3, 3, 0, 0, 0] (ws' := [(mm, .inr (2, [.ref rr, .int (zI ((sz : Int))), .int (zI ((j : Int)))])), (rr, .inl (dA 5, 14, .inr (.inr (.inr (.inr (mo_f al ga)))))), (g0, .inr (0, [.int (zI (g 0)), .int (zI (g 1)), .int (zI (g 2)), .int (zI (g 3)), .int (zI (g 4)), .int (zI (g 5)), .ref g1, .ref g2])), (g1, .inr (1, [.int (zI (g 6)), .int (zI (g 8)), .int (zI (g 10))])), (g2, .inr (1, [.int (zI (g 7)), .int (zI (g 9)), .int (zI (g 11))])), (q0, .inr (0, [.int (zI (sp_new 4 170 0)), .int (zI (sp_new 4 170 1)), .int (zI (sp_new 4 170 2)), .int (zI (sp_new 4 170 3)), .int (zI (sp_new 4 170 4)), .int (zI (sp_new 4 170 5)), .ref u9.1, .ref u9.2])), (u9.1, .inr (1, [.int (zI (sp_new 4 170 6)), .int (zI (sp_new 4 170 8)), .int (zI (sp_new 4 170 10))])), (u9.2, .inr (1, [.int (zI (sp_new 4 170 7)), .int (zI (sp_new 4 170 9)), .int (zI (sp_new 4 170 11))]))] ++ pl_all 14 (mo_F al ga ct)) rfl ?_
        refine hv_astore_n C dX4_keep_45 (lw := [(2, .ref q0), (0, .ref mm), (1, .ref g0)]) (by decide) rfl ?_
        refine hv_aload_n C dX4_keep_46 1 rfl ?_
        refine hv_get C dX4_keep_47 (fun w h => hw_c (tw_u_4 w h)) 0 (ci := 2) rfl rfl 0 (by decide) (hw_c tw_f_RX4_9) rfl ?_
        refine hv_aload_n C dX4_keep_50 1 rfl ?_
        refine hv_get C dX4_keep_51 (fun w h => hw_c (tw_u_4 w h)) 0 (ci := 2) rfl rfl 2 (by decide) (hw_c tw_f_RX4_19) rfl ?_
        refine hv_aload_n C dX4_keep_54 0 rfl ?_
        refine hv_aast C dX4_keep_55 1 5 5 0 rfl rfl rfl rfl (j) (zI_ix (by omega)) (by omega) (by omega) ?_
        refine hv_weq (ws' := [(mm, .inr (2, [.ref rr, .int (zI ((sz : Int))), .int (zI ((j : Int)))])), (rr, .inl (dA 5, 14, .inr (.inr (.inr (.inr (va_up (mo_f al ga) j (some q0))))))), (g0, .inr (0, [.int (zI (g 0)), .int (zI (g 1)), .int (zI (g 2)), .int (zI (g 3)), .int (zI (g 4)), .int (zI (g 5)), .ref g1, .ref g2])), (g1, .inr (1, [.int (zI (g 6)), .int (zI (g 8)), .int (zI (g 10))])), (g2, .inr (1, [.int (zI (g 7)), .int (zI (g 9)), .int (zI (g 11))])), (q0, .inr (0, [.int (zI (sp_new 4 170 0)), .int (zI (sp_new 4 170 1)), .int (zI (sp_new 4 170 2)), .int (zI (sp_new 4 170 3)), .int (zI (sp_new 4 170 4)), .int (zI (sp_new 4 170 5)), .ref u9.1, .ref u9.2])), (u9.1, .inr (1, [.int (zI (sp_new 4 170 6)), .int (zI (sp_new 4 170 8)), .int (zI (sp_new 4 170 10))])), (u9.2, .inr (1, [.int (zI (sp_new 4 170 7)), .int (zI (sp_new 4 170 9)), .int (zI (sp_new 4 170 11))]))] ++ pl_all 14 (mo_F al ga ct)) (rfl) ?_
        refine hv_aload_n C dX4_keep_56 0 rfl ?_
        refine hv_aload_n C dX4_keep_57 2 rfl ?_
        refine hv_perm (ws' := [(mm, .inr (2, [.ref rr, .int (zI ((sz : Int))), .int (zI ((j : Int)))])), (rr, .inl (dA 5, 14, .inr (.inr (.inr (.inr (va_up (mo_f al ga) j (some q0))))))), (g0, .inr (0, [.int (zI (g 0)), .int (zI (g 1)), .int (zI (g 2)), .int (zI (g 3)), .int (zI (g 4)), .int (zI (g 5)), .ref g1, .ref g2])), (g1, .inr (1, [.int (zI (g 6)), .int (zI (g 8)), .int (zI (g 10))])), (g2, .inr (1, [.int (zI (g 7)), .int (zI (g 9)), .int (zI (g 11))])), (q0, .inr (0, [.int (zI (sp_new 4 170 0)), .int (zI (sp_new 4 170 1)), .int (zI (sp_new 4 170 2)), .int (zI (sp_new 4 170 3)), .int (zI (sp_new 4 170 4)), .int (zI (sp_new 4 170 5)), .ref u9.1, .ref u9.2])), (u9.1, .inr (1, [.int (zI (sp_new 4 170 6)), .int (zI (sp_new 4 170 8)), .int (zI (sp_new 4 170 10))])), (u9.2, .inr (1, [.int (zI (sp_new 4 170 7)), .int (zI (sp_new 4 170 9)), .int (zI (sp_new 4 170 11))]))] ++ pl_but 14 j (mo_F al ga ct)) (pl_outL [(mm, .inr (2, [.ref rr, .int (zI ((sz : Int))), .int (zI ((j : Int)))])), (rr, .inl (dA 5, 14, .inr (.inr (.inr (.inr (va_up (mo_f al ga) j (some q0))))))), (g0, .inr (0, [.int (zI (g 0)), .int (zI (g 1)), .int (zI (g 2)), .int (zI (g 3)), .int (zI (g 4)), .int (zI (g 5)), .ref g1, .ref g2])), (g1, .inr (1, [.int (zI (g 6)), .int (zI (g 8)), .int (zI (g 10))])), (g2, .inr (1, [.int (zI (g 7)), .int (zI (g 9)), .int (zI (g 11))])), (q0, .inr (0, [.int (zI (sp_new 4 170 0)), .int (zI (sp_new 4 170 1)), .int (zI (sp_new 4 170 2)), .int (zI (sp_new 4 170 3)), .int (zI (sp_new 4 170 4)), .int (zI (sp_new 4 170 5)), .ref u9.1, .ref u9.2])), (u9.1, .inr (1, [.int (zI (sp_new 4 170 6)), .int (zI (sp_new 4 170 8)), .int (zI (sp_new 4 170 10))])), (u9.2, .inr (1, [.int (zI (sp_new 4 170 7)), .int (zI (sp_new 4 170 9)), .int (zI (sp_new 4 170 11))]))] [] (by omega) (by unfold mo_F; rw [haj]; rfl)) ?_
        refine hv_callV (As := [.ref g0]) (rest := []) (wc := [(q0, .inr (0, [.int (zI (sp_new 4 170 0)), .int (zI (sp_new 4 170 1)), .int (zI (sp_new 4 170 2)), .int (zI (sp_new 4 170 3)), .int (zI (sp_new 4 170 4)), .int (zI (sp_new 4 170 5)), .ref u9.1, .ref u9.2])), (u9.1, .inr (1, [.int (zI (sp_new 4 170 6)), .int (zI (sp_new 4 170 8)), .int (zI (sp_new 4 170 10))])), (u9.2, .inr (1, [.int (zI (sp_new 4 170 7)), .int (zI (sp_new 4 170 9)), .int (zI (sp_new 4 170 11))])), (g0, .inr (0, [.int (zI (g 0)), .int (zI (g 1)), .int (zI (g 2)), .int (zI (g 3)), .int (zI (g 4)), .int (zI (g 5)), .ref g1, .ref g2])), (g1, .inr (1, [.int (zI (g 6)), .int (zI (g 8)), .int (zI (g 10))])), (g2, .inr (1, [.int (zI (g 7)), .int (zI (g 9)), .int (zI (g 11))]))]) (wr := [(mm, .inr (2, [.ref rr, .int (zI ((sz : Int))), .int (zI ((j : Int)))])), (rr, .inl (dA 5, 14, .inr (.inr (.inr (.inr (va_up (mo_f al ga) j (some q0)))))))] ++ pl_but 14 j (mo_F al ga ct)) C (k_X1_becomes l D dA (q0) (u9.1) (u9.2) g0 g1 g2 (sp_new 4 170) g) (cwV 1 C.1.2.2.2.2 (hw_V tw_m_RX4_23 tw_i_X1_becomes tw_s_X1_becomes tw_n_RX1 tw_k_X1_becomes) rfl rfl rfl (by decide +kernel) ⟨Nat.le_of_ble_eq_true rfl, Nat.le_of_ble_eq_true rfl⟩) (hv_pm [5, 5, 5, 2, 2, 2] rfl) rfl 0 0 rfl rfl rfl (Nat.le_of_ble_eq_true rfl) dX4_keep_58 ⟨Nat.le_of_ble_eq_true rfl, Nat.le_of_ble_eq_true rfl⟩ (fun _ _ => ?_)
        refine hv_eqst (st' := []) rfl ?_
        refine hv_weq (ws' := [(q0, .inr (0, [.int (zI (g 0)), .int (zI (g 1)), .int (zI (g 2)), .int (zI (g 3)), .int (zI (g 4)), .int (zI (g 5)), .ref u9.1, .ref u9.2])), (u9.1, .inr (1, [.int (zI (g 6)), .int (zI (g 8)), .int (zI (g 10))])), (u9.2, .inr (1, [.int (zI (g 7)), .int (zI (g 9)), .int (zI (g 11))])), (g0, .inr (0, [.int (zI (g 0)), .int (zI (g 1)), .int (zI (g 2)), .int (zI (g 3)), .int (zI (g 4)), .int (zI (g 5)), .ref g1, .ref g2])), (g1, .inr (1, [.int (zI (g 6)), .int (zI (g 8)), .int (zI (g 10))])), (g2, .inr (1, [.int (zI (g 7)), .int (zI (g 9)), .int (zI (g 11))])), (mm, .inr (2, [.ref rr, .int (zI ((sz : Int))), .int (zI ((j : Int)))])), (rr, .inl (dA 5, 14, .inr (.inr (.inr (.inr (va_up (mo_f al ga) j (some q0)))))))] ++ pl_but 14 j (mo_F al ga ct)) (rfl) ?_
        refine hv_srt [6, 6, 3, 3, 3, 0, 0, 0] (ws' := [(mm, .inr (2, [.ref rr, .int (zI ((sz : Int))), .int (zI ((j : Int)))])), (rr, .inl (dA 5, 14, .inr (.inr (.inr (.inr (va_up (mo_f al ga) j (some q0))))))), (g0, .inr (0, [.int (zI (g 0)), .int (zI (g 1)), .int (zI (g 2)), .int (zI (g 3)), .int (zI (g 4)), .int (zI (g 5)), .ref g1, .ref g2])), (g1, .inr (1, [.int (zI (g 6)), .int (zI (g 8)), .int (zI (g 10))])), (g2, .inr (1, [.int (zI (g 7)), .int (zI (g 9)), .int (zI (g 11))])), (q0, .inr (0, [.int (zI (g 0)), .int (zI (g 1)), .int (zI (g 2)), .int (zI (g 3)), .int (zI (g 4)), .int (zI (g 5)), .ref u9.1, .ref u9.2])), (u9.1, .inr (1, [.int (zI (g 6)), .int (zI (g 8)), .int (zI (g 10))])), (u9.2, .inr (1, [.int (zI (g 7)), .int (zI (g 9)), .int (zI (g 11))]))] ++ pl_but 14 j (mo_F al ga ct)) rfl ?_
        refine hv_aload_n C dX4_keep_61 1 rfl ?_
        refine hv_dup C dX4_keep_62 rfl ?_
        refine hv_get C dX4_keep_63 (fun w h => hw_c (tw_u_4 w h)) 0 (ci := 2) rfl rfl 2 (by decide) (hw_c tw_f_RX4_19) rfl ?_
        refine hv_iconst C dX4_keep_66 (v := zI (1)) rfl ?_
        refine hv_iadd C dX4_keep_67 (z := zI (((j + 1 : Nat) : Int))) ((zI_add _ _).trans (zI_c (by omega))) ?_
        refine hv_put C dX4_keep_68 (fun w h => hw_c (tw_u_4 w h)) tyX4 tyX4_ok nmX4 0 (ci := 2) (ty := .int) rfl rfl 2 (by decide) (hw_c tw_f_RX4_19) rfl rfl rfl rfl (Nat.le_of_ble_eq_true rfl) ?_
        refine hv_weq (ws' := [(mm, .inr (2, [.ref rr, .int (zI ((sz : Int))), .int (zI (((j + 1 : Nat) : Int)))])), (rr, .inl (dA 5, 14, .inr (.inr (.inr (.inr (va_up (mo_f al ga) j (some q0))))))), (g0, .inr (0, [.int (zI (g 0)), .int (zI (g 1)), .int (zI (g 2)), .int (zI (g 3)), .int (zI (g 4)), .int (zI (g 5)), .ref g1, .ref g2])), (g1, .inr (1, [.int (zI (g 6)), .int (zI (g 8)), .int (zI (g 10))])), (g2, .inr (1, [.int (zI (g 7)), .int (zI (g 9)), .int (zI (g 11))])), (q0, .inr (0, [.int (zI (g 0)), .int (zI (g 1)), .int (zI (g 2)), .int (zI (g 3)), .int (zI (g 4)), .int (zI (g 5)), .ref u9.1, .ref u9.2])), (u9.1, .inr (1, [.int (zI (g 6)), .int (zI (g 8)), .int (zI (g 10))])), (u9.2, .inr (1, [.int (zI (g 7)), .int (zI (g 9)), .int (zI (g 11))]))] ++ pl_but 14 j (mo_F al ga ct)) rfl ?_
        refine hv_aload_n C dX4_keep_71 1 rfl ?_
        refine hv_aload_n C dX4_keep_72 1 rfl ?_
        refine hv_get C dX4_keep_73 (fun w h => hw_c (tw_u_4 w h)) 0 (ci := 2) rfl rfl 1 (by decide) (hw_c tw_f_RX4_15) rfl ?_
        refine hv_iconst C dX4_keep_76 (v := zI (1)) rfl ?_
        refine hv_iadd C dX4_keep_77 (z := zI (((sz + 1 : Nat) : Int))) ((zI_add _ _).trans (zI_c (by omega))) ?_
        refine hv_aload_n C dX4_keep_78 1 rfl ?_
        refine hv_get C dX4_keep_79 (fun w h => hw_c (tw_u_4 w h)) 0 (ci := 2) rfl rfl 0 (by decide) (hw_c tw_f_RX4_9) rfl ?_
        refine hv_alen C 5 dX4_keep_82 1 rfl rfl (v := zI (14)) (rfl) ?_
        refine hv_mmin C dX4_keep_83 (hw_c tw_m_RX4_27) (hw_c tw_t_Lib_Math_min_name) (hw_c tw_n_java_lang_Math) (hw_c tw_k_Lib_Math_min_name) (Nat.le_of_ble_eq_true rfl) (Nat.le_of_ble_eq_true rfl) (by exact Nat.le_of_ble_eq_true rfl) (by exact Nat.le_of_ble_eq_true rfl) (z := zI (((min (sz + 1) 14 : Nat) : Int))) (by rw [zI_min (by omega)]; exact zI_c (by omega)) ?_
        refine hv_put C dX4_keep_86 (fun w h => hw_c (tw_u_4 w h)) tyX4 tyX4_ok nmX4 0 (ci := 2) (ty := .int) rfl rfl 1 (by decide) (hw_c tw_f_RX4_15) rfl rfl rfl rfl (Nat.le_of_ble_eq_true rfl) ?_
        refine hv_weq (ws' := [(mm, .inr (2, [.ref rr, .int (zI (((min (sz + 1) 14 : Nat) : Int))), .int (zI (((j + 1 : Nat) : Int)))])), (rr, .inl (dA 5, 14, .inr (.inr (.inr (.inr (va_up (mo_f al ga) j (some q0))))))), (g0, .inr (0, [.int (zI (g 0)), .int (zI (g 1)), .int (zI (g 2)), .int (zI (g 3)), .int (zI (g 4)), .int (zI (g 5)), .ref g1, .ref g2])), (g1, .inr (1, [.int (zI (g 6)), .int (zI (g 8)), .int (zI (g 10))])), (g2, .inr (1, [.int (zI (g 7)), .int (zI (g 9)), .int (zI (g 11))])), (q0, .inr (0, [.int (zI (g 0)), .int (zI (g 1)), .int (zI (g 2)), .int (zI (g 3)), .int (zI (g 4)), .int (zI (g 5)), .ref u9.1, .ref u9.2])), (u9.1, .inr (1, [.int (zI (g 6)), .int (zI (g 8)), .int (zI (g 10))])), (u9.2, .inr (1, [.int (zI (g 7)), .int (zI (g 9)), .int (zI (g 11))]))] ++ pl_but 14 j (mo_F al ga ct)) rfl ?_
        refine hv_weq (ws' := [(mm, .inr (2, [.ref rr, .int (zI (((min (sz + 1) 14 : Nat) : Int))), .int (zI (((j + 1 : Nat) : Int)))])), (rr, .inl (dA 5, 14, .inr (.inr (.inr (.inr (mo_f (mo_al al j) (mo_ga ga j (q0, u9.1, u9.2)))))))), (g0, .inr (0, [.int (zI (g 0)), .int (zI (g 1)), .int (zI (g 2)), .int (zI (g 3)), .int (zI (g 4)), .int (zI (g 5)), .ref g1, .ref g2])), (g1, .inr (1, [.int (zI (g 6)), .int (zI (g 8)), .int (zI (g 10))])), (g2, .inr (1, [.int (zI (g 7)), .int (zI (g 9)), .int (zI (g 11))])), (q0, .inr (0, [.int (zI (g 0)), .int (zI (g 1)), .int (zI (g 2)), .int (zI (g 3)), .int (zI (g 4)), .int (zI (g 5)), .ref u9.1, .ref u9.2])), (u9.1, .inr (1, [.int (zI (g 6)), .int (zI (g 8)), .int (zI (g 10))])), (u9.2, .inr (1, [.int (zI (g 7)), .int (zI (g 9)), .int (zI (g 11))]))] ++ pl_but 14 j (mo_F al ga ct)) (by rw [← mo_f_new al ga j (q0, u9.1, u9.2)]) ?_
        exact hv_vret C M dX4_keep_89 rfl (mo_ga ga j (q0, u9.1, u9.2)) trivial rfl [] (pl_ret (pl_inL [(mm, .inr (2, [.ref rr, .int (zI (((min (sz + 1) 14 : Nat) : Int))), .int (zI (((j + 1 : Nat) : Int)))])), (rr, .inl (dA 5, 14, .inr (.inr (.inr (.inr (mo_f (mo_al al j) (mo_ga ga j (q0, u9.1, u9.2)))))))), (g0, .inr (0, [.int (zI (g 0)), .int (zI (g 1)), .int (zI (g 2)), .int (zI (g 3)), .int (zI (g 4)), .int (zI (g 5)), .ref g1, .ref g2])), (g1, .inr (1, [.int (zI (g 6)), .int (zI (g 8)), .int (zI (g 10))])), (g2, .inr (1, [.int (zI (g 7)), .int (zI (g 9)), .int (zI (g 11))]))] (G3 q0 u9.1 u9.2 g) (by omega) (by rw [mo_F_here, mo_ga_here]) (mo_F_there (mo_ga_there ga j _)))) (Nat.le_of_ble_eq_true rfl) (Nat.le_of_ble_eq_true rfl)
      · refine hv_aald C dX4_keep_32 1 5 rfl rfl (j) (zI_ix (by omega)) (by omega) (by omega) ?_
        refine hv_eqst (st' := [.ref (ga j).1]) (by unfold mo_f; rw [haj]; rfl) ?_
        refine hv_astore_n C dX4_keep_33 (lw := [(2, .ref (ga j).1), (0, .ref mm), (1, .ref g0)]) (by decide) rfl ?_
        refine hv_aload_n C dX4_keep_34 0 rfl ?_
        refine hv_ifnonnull C dX4_keep_35 (tgt := 56) (by decide) ?_
        refine hv_aload_n C dX4_keep_56 0 rfl ?_
        refine hv_aload_n C dX4_keep_57 2 rfl ?_
        refine hv_perm (ws' := [(mm, .inr (2, [.ref rr, .int (zI ((sz : Int))), .int (zI ((j : Int)))])), (rr, .inl (dA 5, 14, .inr (.inr (.inr (.inr (mo_f al ga)))))), (g0, .inr (0, [.int (zI (g 0)), .int (zI (g 1)), .int (zI (g 2)), .int (zI (g 3)), .int (zI (g 4)), .int (zI (g 5)), .ref g1, .ref g2])), (g1, .inr (1, [.int (zI (g 6)), .int (zI (g 8)), .int (zI (g 10))])), (g2, .inr (1, [.int (zI (g 7)), .int (zI (g 9)), .int (zI (g 11))])), ((ga j).1, .inr (0, [.int (zI (ct j 0)), .int (zI (ct j 1)), .int (zI (ct j 2)), .int (zI (ct j 3)), .int (zI (ct j 4)), .int (zI (ct j 5)), .ref (ga j).2.1, .ref (ga j).2.2])), ((ga j).2.1, .inr (1, [.int (zI (ct j 6)), .int (zI (ct j 8)), .int (zI (ct j 10))])), ((ga j).2.2, .inr (1, [.int (zI (ct j 7)), .int (zI (ct j 9)), .int (zI (ct j 11))]))] ++ pl_but 14 j (mo_F al ga ct)) (pl_outL [(mm, .inr (2, [.ref rr, .int (zI ((sz : Int))), .int (zI ((j : Int)))])), (rr, .inl (dA 5, 14, .inr (.inr (.inr (.inr (mo_f al ga)))))), (g0, .inr (0, [.int (zI (g 0)), .int (zI (g 1)), .int (zI (g 2)), .int (zI (g 3)), .int (zI (g 4)), .int (zI (g 5)), .ref g1, .ref g2])), (g1, .inr (1, [.int (zI (g 6)), .int (zI (g 8)), .int (zI (g 10))])), (g2, .inr (1, [.int (zI (g 7)), .int (zI (g 9)), .int (zI (g 11))]))] (G3 (ga j).1 (ga j).2.1 (ga j).2.2 (ct j)) (by omega) (by unfold mo_F; rw [haj]; rfl)) ?_
        refine hv_callV (As := [.ref g0]) (rest := []) (wc := [((ga j).1, .inr (0, [.int (zI (ct j 0)), .int (zI (ct j 1)), .int (zI (ct j 2)), .int (zI (ct j 3)), .int (zI (ct j 4)), .int (zI (ct j 5)), .ref (ga j).2.1, .ref (ga j).2.2])), ((ga j).2.1, .inr (1, [.int (zI (ct j 6)), .int (zI (ct j 8)), .int (zI (ct j 10))])), ((ga j).2.2, .inr (1, [.int (zI (ct j 7)), .int (zI (ct j 9)), .int (zI (ct j 11))])), (g0, .inr (0, [.int (zI (g 0)), .int (zI (g 1)), .int (zI (g 2)), .int (zI (g 3)), .int (zI (g 4)), .int (zI (g 5)), .ref g1, .ref g2])), (g1, .inr (1, [.int (zI (g 6)), .int (zI (g 8)), .int (zI (g 10))])), (g2, .inr (1, [.int (zI (g 7)), .int (zI (g 9)), .int (zI (g 11))]))]) (wr := [(mm, .inr (2, [.ref rr, .int (zI ((sz : Int))), .int (zI ((j : Int)))])), (rr, .inl (dA 5, 14, .inr (.inr (.inr (.inr (mo_f al ga))))))] ++ pl_but 14 j (mo_F al ga ct)) C (k_X1_becomes l D dA ((ga j).1) ((ga j).2.1) ((ga j).2.2) g0 g1 g2 (ct j) g) (cwV 1 C.1.2.2.2.2 (hw_V tw_m_RX4_23 tw_i_X1_becomes tw_s_X1_becomes tw_n_RX1 tw_k_X1_becomes) rfl rfl rfl (by decide +kernel) ⟨Nat.le_of_ble_eq_true rfl, Nat.le_of_ble_eq_true rfl⟩) (hv_pm [5, 5, 5, 2, 2, 2] rfl) rfl 0 0 rfl rfl rfl (Nat.le_of_ble_eq_true rfl) dX4_keep_58 ⟨Nat.le_of_ble_eq_true rfl, Nat.le_of_ble_eq_true rfl⟩ (fun _ _ => ?_)
        refine hv_eqst (st' := []) rfl ?_
        refine hv_weq (ws' := [((ga j).1, .inr (0, [.int (zI (g 0)), .int (zI (g 1)), .int (zI (g 2)), .int (zI (g 3)), .int (zI (g 4)), .int (zI (g 5)), .ref (ga j).2.1, .ref (ga j).2.2])), ((ga j).2.1, .inr (1, [.int (zI (g 6)), .int (zI (g 8)), .int (zI (g 10))])), ((ga j).2.2, .inr (1, [.int (zI (g 7)), .int (zI (g 9)), .int (zI (g 11))])), (g0, .inr (0, [.int (zI (g 0)), .int (zI (g 1)), .int (zI (g 2)), .int (zI (g 3)), .int (zI (g 4)), .int (zI (g 5)), .ref g1, .ref g2])), (g1, .inr (1, [.int (zI (g 6)), .int (zI (g 8)), .int (zI (g 10))])), (g2, .inr (1, [.int (zI (g 7)), .int (zI (g 9)), .int (zI (g 11))])), (mm, .inr (2, [.ref rr, .int (zI ((sz : Int))), .int (zI ((j : Int)))])), (rr, .inl (dA 5, 14, .inr (.inr (.inr (.inr (mo_f al ga))))))] ++ pl_but 14 j (mo_F al ga ct)) (rfl) ?_
        refine hv_srt [6, 6, 3, 3, 3, 0, 0, 0] (ws' := [(mm, .inr (2, [.ref rr, .int (zI ((sz : Int))), .int (zI ((j : Int)))])), (rr, .inl (dA 5, 14, .inr (.inr (.inr (.inr (mo_f al ga)))))), (g0, .inr (0, [.int (zI (g 0)), .int (zI (g 1)), .int (zI (g 2)), .int (zI (g 3)), .int (zI (g 4)), .int (zI (g 5)), .ref g1, .ref g2])), (g1, .inr (1, [.int (zI (g 6)), .int (zI (g 8)), .int (zI (g 10))])), (g2, .inr (1, [.int (zI (g 7)), .int (zI (g 9)), .int (zI (g 11))])), ((ga j).1, .inr (0, [.int (zI (g 0)), .int (zI (g 1)), .int (zI (g 2)), .int (zI (g 3)), .int (zI (g 4)), .int (zI (g 5)), .ref (ga j).2.1, .ref (ga j).2.2])), ((ga j).2.1, .inr (1, [.int (zI (g 6)), .int (zI (g 8)), .int (zI (g 10))])), ((ga j).2.2, .inr (1, [.int (zI (g 7)), .int (zI (g 9)), .int (zI (g 11))]))] ++ pl_but 14 j (mo_F al ga ct)) rfl ?_
        refine hv_aload_n C dX4_keep_61 1 rfl ?_
        refine hv_dup C dX4_keep_62 rfl ?_
        refine hv_get C dX4_keep_63 (fun w h => hw_c (tw_u_4 w h)) 0 (ci := 2) rfl rfl 2 (by decide) (hw_c tw_f_RX4_19) rfl ?_
        refine hv_iconst C dX4_keep_66 (v := zI (1)) rfl ?_
        refine hv_iadd C dX4_keep_67 (z := zI (((j + 1 : Nat) : Int))) ((zI_add _ _).trans (zI_c (by omega))) ?_
        refine hv_put C dX4_keep_68 (fun w h => hw_c (tw_u_4 w h)) tyX4 tyX4_ok nmX4 0 (ci := 2) (ty := .int) rfl rfl 2 (by decide) (hw_c tw_f_RX4_19) rfl rfl rfl rfl (Nat.le_of_ble_eq_true rfl) ?_
        refine hv_weq (ws' := [(mm, .inr (2, [.ref rr, .int (zI ((sz : Int))), .int (zI (((j + 1 : Nat) : Int)))])), (rr, .inl (dA 5, 14, .inr (.inr (.inr (.inr (mo_f al ga)))))), (g0, .inr (0, [.int (zI (g 0)), .int (zI (g 1)), .int (zI (g 2)), .int (zI (g 3)), .int (zI (g 4)), .int (zI (g 5)), .ref g1, .ref g2])), (g1, .inr (1, [.int (zI (g 6)), .int (zI (g 8)), .int (zI (g 10))])), (g2, .inr (1, [.int (zI (g 7)), .int (zI (g 9)), .int (zI (g 11))])), ((ga j).1, .inr (0, [.int (zI (g 0)), .int (zI (g 1)), .int (zI (g 2)), .int (zI (g 3)), .int (zI (g 4)), .int (zI (g 5)), .ref (ga j).2.1, .ref (ga j).2.2])), ((ga j).2.1, .inr (1, [.int (zI (g 6)), .int (zI (g 8)), .int (zI (g 10))])), ((ga j).2.2, .inr (1, [.int (zI (g 7)), .int (zI (g 9)), .int (zI (g 11))]))] ++ pl_but 14 j (mo_F al ga ct)) rfl ?_
        refine hv_aload_n C dX4_keep_71 1 rfl ?_
        refine hv_aload_n C dX4_keep_72 1 rfl ?_
        refine hv_get C dX4_keep_73 (fun w h => hw_c (tw_u_4 w h)) 0 (ci := 2) rfl rfl 1 (by decide) (hw_c tw_f_RX4_15) rfl ?_
        refine hv_iconst C dX4_keep_76 (v := zI (1)) rfl ?_
        refine hv_iadd C dX4_keep_77 (z := zI (((sz + 1 : Nat) : Int))) ((zI_add _ _).trans (zI_c (by omega))) ?_
        refine hv_aload_n C dX4_keep_78 1 rfl ?_
        refine hv_get C dX4_keep_79 (fun w h => hw_c (tw_u_4 w h)) 0 (ci := 2) rfl rfl 0 (by decide) (hw_c tw_f_RX4_9) rfl ?_
        refine hv_alen C 5 dX4_keep_82 1 rfl rfl (v := zI (14)) (rfl) ?_
        refine hv_mmin C dX4_keep_83 (hw_c tw_m_RX4_27) (hw_c tw_t_Lib_Math_min_name) (hw_c tw_n_java_lang_Math) (hw_c tw_k_Lib_Math_min_name) (Nat.le_of_ble_eq_true rfl) (Nat.le_of_ble_eq_true rfl) (by exact Nat.le_of_ble_eq_true rfl) (by exact Nat.le_of_ble_eq_true rfl) (z := zI (((min (sz + 1) 14 : Nat) : Int))) (by rw [zI_min (by omega)]; exact zI_c (by omega)) ?_
        refine hv_put C dX4_keep_86 (fun w h => hw_c (tw_u_4 w h)) tyX4 tyX4_ok nmX4 0 (ci := 2) (ty := .int) rfl rfl 1 (by decide) (hw_c tw_f_RX4_15) rfl rfl rfl rfl (Nat.le_of_ble_eq_true rfl) ?_
        refine hv_weq (ws' := [(mm, .inr (2, [.ref rr, .int (zI (((min (sz + 1) 14 : Nat) : Int))), .int (zI (((j + 1 : Nat) : Int)))])), (rr, .inl (dA 5, 14, .inr (.inr (.inr (.inr (mo_f al ga)))))), (g0, .inr (0, [.int (zI (g 0)), .int (zI (g 1)), .int (zI (g 2)), .int (zI (g 3)), .int (zI (g 4)), .int (zI (g 5)), .ref g1, .ref g2])), (g1, .inr (1, [.int (zI (g 6)), .int (zI (g 8)), .int (zI (g 10))])), (g2, .inr (1, [.int (zI (g 7)), .int (zI (g 9)), .int (zI (g 11))])), ((ga j).1, .inr (0, [.int (zI (g 0)), .int (zI (g 1)), .int (zI (g 2)), .int (zI (g 3)), .int (zI (g 4)), .int (zI (g 5)), .ref (ga j).2.1, .ref (ga j).2.2])), ((ga j).2.1, .inr (1, [.int (zI (g 6)), .int (zI (g 8)), .int (zI (g 10))])), ((ga j).2.2, .inr (1, [.int (zI (g 7)), .int (zI (g 9)), .int (zI (g 11))]))] ++ pl_but 14 j (mo_F al ga ct)) rfl ?_
        refine hv_weq (ws' := [(mm, .inr (2, [.ref rr, .int (zI (((min (sz + 1) 14 : Nat) : Int))), .int (zI (((j + 1 : Nat) : Int)))])), (rr, .inl (dA 5, 14, .inr (.inr (.inr (.inr (mo_f (mo_al al j) ga)))))), (g0, .inr (0, [.int (zI (g 0)), .int (zI (g 1)), .int (zI (g 2)), .int (zI (g 3)), .int (zI (g 4)), .int (zI (g 5)), .ref g1, .ref g2])), (g1, .inr (1, [.int (zI (g 6)), .int (zI (g 8)), .int (zI (g 10))])), (g2, .inr (1, [.int (zI (g 7)), .int (zI (g 9)), .int (zI (g 11))])), ((ga j).1, .inr (0, [.int (zI (g 0)), .int (zI (g 1)), .int (zI (g 2)), .int (zI (g 3)), .int (zI (g 4)), .int (zI (g 5)), .ref (ga j).2.1, .ref (ga j).2.2])), ((ga j).2.1, .inr (1, [.int (zI (g 6)), .int (zI (g 8)), .int (zI (g 10))])), ((ga j).2.2, .inr (1, [.int (zI (g 7)), .int (zI (g 9)), .int (zI (g 11))]))] ++ pl_but 14 j (mo_F al ga ct)) (by rw [mo_f_old haj]) ?_
        exact hv_vret C M dX4_keep_89 rfl ga trivial rfl [] (pl_ret (pl_inL [(mm, .inr (2, [.ref rr, .int (zI (((min (sz + 1) 14 : Nat) : Int))), .int (zI (((j + 1 : Nat) : Int)))])), (rr, .inl (dA 5, 14, .inr (.inr (.inr (.inr (mo_f (mo_al al j) ga)))))), (g0, .inr (0, [.int (zI (g 0)), .int (zI (g 1)), .int (zI (g 2)), .int (zI (g 3)), .int (zI (g 4)), .int (zI (g 5)), .ref g1, .ref g2])), (g1, .inr (1, [.int (zI (g 6)), .int (zI (g 8)), .int (zI (g 10))])), (g2, .inr (1, [.int (zI (g 7)), .int (zI (g 9)), .int (zI (g 11))]))] (G3 (ga j).1 (ga j).2.1 (ga j).2.2 g) (by omega) mo_F_here (mo_F_there (fun _ _ => rfl)))) (Nat.le_of_ble_eq_true rfl) (Nat.le_of_ble_eq_true rfl)

set_option maxHeartbeats 4000000 in
set_option maxRecDepth 100000 in
theorem k_X4_givesBack_t (l : Launch) (D : va_G) (dA : Nat → ClassId) (mm rr g0 g1 g2 : Nat) (g : Nat → Int) (sz nx j : Nat) (al : Nat → Bool) (ga : Nat → Nat × Nat × Nat) (ct : Nat → Nat → Int) (h0 : 0 < sz) (hsz : sz ≤ 14) (hnx : nx ≤ 14) (ej : j = (nx + 13) % 14) (haj : al j = true) : hv_Ct l yX4_givesBack (hw_W yX4_givesBack cX4_givesBack 4 (some .boolean)) 2 D dA [.ref mm, .ref g0] ([(mm, .inr (2, [.ref rr, .int (zI ((sz : Int))), .int (zI ((nx : Int)))])), (rr, .inl (dA 5, 14, .inr (.inr (.inr (.inr (mo_f al ga)))))), (g0, .inr (0, [.int (zI (g 0)), .int (zI (g 1)), .int (zI (g 2)), .int (zI (g 3)), .int (zI (g 4)), .int (zI (g 5)), .ref g1, .ref g2])), (g1, .inr (1, [.int (zI (g 6)), .int (zI (g 8)), .int (zI (g 10))])), (g2, .inr (1, [.int (zI (g 7)), .int (zI (g 9)), .int (zI (g 11))]))] ++ pl_all 14 (mo_F al ga ct)) 0 0 (S := Unit) (fun _ => some (.int (zI 1))) (fun _ => True) (fun _ => [(mm, .inr (2, [.ref rr, .int (zI (((sz - 1 : Nat) : Int))), .int (zI ((j : Int)))])), (rr, .inl (dA 5, 14, .inr (.inr (.inr (.inr (mo_f al ga)))))), (g0, .inr (0, [.int (zI (ct j 0)), .int (zI (ct j 1)), .int (zI (ct j 2)), .int (zI (ct j 3)), .int (zI (ct j 4)), .int (zI (ct j 5)), .ref g1, .ref g2])), (g1, .inr (1, [.int (zI (ct j 6)), .int (zI (ct j 8)), .int (zI (ct j 10))])), (g2, .inr (1, [.int (zI (ct j 7)), .int (zI (ct j 9)), .int (zI (ct j 11))]))] ++ pl_all 14 (mo_F al ga ct)) := by
  refine hv_of (cc := cX4_givesBack) (maxL := 4) (ret := (some .boolean)) (own := RX4) rfl (by decide) rfl (Nat.le_of_ble_eq_true rfl) ?_
  intro p e s m args below meth c C M
  refine hv_lveq (lv' := [(0, .ref mm), (1, .ref g0)]) rfl ?_
  refine hv_aload_n C dX4_givesBack_0 0 rfl ?_
  refine hv_get C dX4_givesBack_1 (fun w h => hw_c (tw_u_4 w h)) 0 (ci := 2) rfl rfl 2 (by decide) (hw_c tw_f_RX4_19) rfl ?_
  refine hv_if_ne C dX4_givesBack_4 (tgt := 17) (by decide) (zI_ne0 (by omega)) (fun hc4 => ?_) (fun hc4 => ?_)
  · refine hv_aload_n C dX4_givesBack_17 0 rfl ?_
    refine hv_get C dX4_givesBack_18 (fun w h => hw_c (tw_u_4 w h)) 0 (ci := 2) rfl rfl 2 (by decide) (hw_c tw_f_RX4_19) rfl ?_
    refine hv_iconst C dX4_givesBack_21 (v := zI (1)) rfl ?_
    refine hv_isub C dX4_givesBack_22 (zI_sub _ _) ?_
    refine hv_topi (y := zI ((j : Int))) (by exact zI_c (by omega)) ?_
    refine hv_istore_n C dX4_givesBack_23 (lw := [(2, .int (zI ((j : Int)))), (0, .ref mm), (1, .ref g0)]) (by decide) rfl ?_
    refine hv_aload_n C dX4_givesBack_24 1 rfl ?_
    refine hv_get C dX4_givesBack_25 (fun w h => hw_c (tw_u_4 w h)) 0 (ci := 2) rfl rfl 1 (by decide) (hw_c tw_f_RX4_15) rfl ?_
    refine hv_if_eq C dX4_givesBack_28 (tgt := 44) (by decide) (zI_eq0 (by omega)) (fun hc28 => ?_) (fun hc28 => ?_)
    · exfalso; omega
    · refine hv_iload_n C dX4_givesBack_31 0 rfl ?_
      refine hv_if_lt C dX4_givesBack_32 (tgt := 44) (by decide) (zI_lt0 (by omega)) (fun hc32 => ?_) (fun hc32 => ?_)
      · exfalso; omega
      · refine hv_iload_n C dX4_givesBack_35 0 rfl ?_
        refine hv_aload_n C dX4_givesBack_36 1 rfl ?_
        refine hv_get C dX4_givesBack_37 (fun w h => hw_c (tw_u_4 w h)) 0 (ci := 2) rfl rfl 0 (by decide) (hw_c tw_f_RX4_9) rfl ?_
        refine hv_alen C 5 dX4_givesBack_40 1 rfl rfl (v := zI (14)) (rfl) ?_
        refine hv_icmp_lt C dX4_givesBack_41 (tgt := 46) (by decide) (zI_lt (by omega)) (fun hc41 => ?_) (fun hc41 => ?_)
        · refine hv_aload_n C dX4_givesBack_46 1 rfl ?_
          refine hv_get C dX4_givesBack_47 (fun w h => hw_c (tw_u_4 w h)) 0 (ci := 2) rfl rfl 0 (by decide) (hw_c tw_f_RX4_9) rfl ?_
          refine hv_iload_n C dX4_givesBack_50 0 rfl ?_
          refine hv_aald C dX4_givesBack_51 1 5 rfl rfl (j) (zI_ix (by omega)) (by omega) (by omega) ?_
          refine hv_eqst (st' := [.ref (ga j).1]) (by unfold mo_f; rw [haj]; rfl) ?_
          refine hv_astore_n C dX4_givesBack_52 (lw := [(3, .ref (ga j).1), (2, .int (zI ((j : Int)))), (0, .ref mm), (1, .ref g0)]) (by decide) rfl ?_
          refine hv_aload_n C dX4_givesBack_53 0 rfl ?_
          refine hv_ifnonnull C dX4_givesBack_54 (tgt := 59) (by decide) ?_
          refine hv_aload_n C dX4_givesBack_59 3 rfl ?_
          refine hv_aload_n C dX4_givesBack_60 0 rfl ?_
          refine hv_perm (ws' := [(mm, .inr (2, [.ref rr, .int (zI ((sz : Int))), .int (zI ((nx : Int)))])), (rr, .inl (dA 5, 14, .inr (.inr (.inr (.inr (mo_f al ga)))))), (g0, .inr (0, [.int (zI (g 0)), .int (zI (g 1)), .int (zI (g 2)), .int (zI (g 3)), .int (zI (g 4)), .int (zI (g 5)), .ref g1, .ref g2])), (g1, .inr (1, [.int (zI (g 6)), .int (zI (g 8)), .int (zI (g 10))])), (g2, .inr (1, [.int (zI (g 7)), .int (zI (g 9)), .int (zI (g 11))])), ((ga j).1, .inr (0, [.int (zI (ct j 0)), .int (zI (ct j 1)), .int (zI (ct j 2)), .int (zI (ct j 3)), .int (zI (ct j 4)), .int (zI (ct j 5)), .ref (ga j).2.1, .ref (ga j).2.2])), ((ga j).2.1, .inr (1, [.int (zI (ct j 6)), .int (zI (ct j 8)), .int (zI (ct j 10))])), ((ga j).2.2, .inr (1, [.int (zI (ct j 7)), .int (zI (ct j 9)), .int (zI (ct j 11))]))] ++ pl_but 14 j (mo_F al ga ct)) (pl_outL [(mm, .inr (2, [.ref rr, .int (zI ((sz : Int))), .int (zI ((nx : Int)))])), (rr, .inl (dA 5, 14, .inr (.inr (.inr (.inr (mo_f al ga)))))), (g0, .inr (0, [.int (zI (g 0)), .int (zI (g 1)), .int (zI (g 2)), .int (zI (g 3)), .int (zI (g 4)), .int (zI (g 5)), .ref g1, .ref g2])), (g1, .inr (1, [.int (zI (g 6)), .int (zI (g 8)), .int (zI (g 10))])), (g2, .inr (1, [.int (zI (g 7)), .int (zI (g 9)), .int (zI (g 11))]))] (G3 (ga j).1 (ga j).2.1 (ga j).2.2 (ct j)) (by omega) (by unfold mo_F; rw [haj]; rfl)) ?_
          refine hv_callV (As := [.ref (ga j).1]) (rest := []) (wc := [(g0, .inr (0, [.int (zI (g 0)), .int (zI (g 1)), .int (zI (g 2)), .int (zI (g 3)), .int (zI (g 4)), .int (zI (g 5)), .ref g1, .ref g2])), (g1, .inr (1, [.int (zI (g 6)), .int (zI (g 8)), .int (zI (g 10))])), (g2, .inr (1, [.int (zI (g 7)), .int (zI (g 9)), .int (zI (g 11))])), ((ga j).1, .inr (0, [.int (zI (ct j 0)), .int (zI (ct j 1)), .int (zI (ct j 2)), .int (zI (ct j 3)), .int (zI (ct j 4)), .int (zI (ct j 5)), .ref (ga j).2.1, .ref (ga j).2.2])), ((ga j).2.1, .inr (1, [.int (zI (ct j 6)), .int (zI (ct j 8)), .int (zI (ct j 10))])), ((ga j).2.2, .inr (1, [.int (zI (ct j 7)), .int (zI (ct j 9)), .int (zI (ct j 11))]))]) (wr := [(mm, .inr (2, [.ref rr, .int (zI ((sz : Int))), .int (zI ((nx : Int)))])), (rr, .inl (dA 5, 14, .inr (.inr (.inr (.inr (mo_f al ga))))))] ++ pl_but 14 j (mo_F al ga ct)) C (k_X1_becomes l D dA g0 g1 g2 (ga j).1 (ga j).2.1 (ga j).2.2 g (ct j)) (cwV 1 C.1.2.2.2.2 (hw_V tw_m_RX4_23 tw_i_X1_becomes tw_s_X1_becomes tw_n_RX1 tw_k_X1_becomes) rfl rfl rfl (by decide +kernel) ⟨Nat.le_of_ble_eq_true rfl, Nat.le_of_ble_eq_true rfl⟩) (hv_pm [2, 2, 2, 2, 2, 2] rfl) rfl 0 0 rfl rfl rfl (Nat.le_of_ble_eq_true rfl) dX4_givesBack_61 ⟨Nat.le_of_ble_eq_true rfl, Nat.le_of_ble_eq_true rfl⟩ (fun _ _ => ?_)
          refine hv_eqst (st' := []) rfl ?_
          refine hv_weq (ws' := [(g0, .inr (0, [.int (zI (ct j 0)), .int (zI (ct j 1)), .int (zI (ct j 2)), .int (zI (ct j 3)), .int (zI (ct j 4)), .int (zI (ct j 5)), .ref g1, .ref g2])), (g1, .inr (1, [.int (zI (ct j 6)), .int (zI (ct j 8)), .int (zI (ct j 10))])), (g2, .inr (1, [.int (zI (ct j 7)), .int (zI (ct j 9)), .int (zI (ct j 11))])), ((ga j).1, .inr (0, [.int (zI (ct j 0)), .int (zI (ct j 1)), .int (zI (ct j 2)), .int (zI (ct j 3)), .int (zI (ct j 4)), .int (zI (ct j 5)), .ref (ga j).2.1, .ref (ga j).2.2])), ((ga j).2.1, .inr (1, [.int (zI (ct j 6)), .int (zI (ct j 8)), .int (zI (ct j 10))])), ((ga j).2.2, .inr (1, [.int (zI (ct j 7)), .int (zI (ct j 9)), .int (zI (ct j 11))])), (mm, .inr (2, [.ref rr, .int (zI ((sz : Int))), .int (zI ((nx : Int)))])), (rr, .inl (dA 5, 14, .inr (.inr (.inr (.inr (mo_f al ga))))))] ++ pl_but 14 j (mo_F al ga ct)) (rfl) ?_
          refine hv_srt [6, 6, 0, 0, 0, 0, 0, 0] (ws' := [(mm, .inr (2, [.ref rr, .int (zI ((sz : Int))), .int (zI ((nx : Int)))])), (rr, .inl (dA 5, 14, .inr (.inr (.inr (.inr (mo_f al ga)))))), (g0, .inr (0, [.int (zI (ct j 0)), .int (zI (ct j 1)), .int (zI (ct j 2)), .int (zI (ct j 3)), .int (zI (ct j 4)), .int (zI (ct j 5)), .ref g1, .ref g2])), (g1, .inr (1, [.int (zI (ct j 6)), .int (zI (ct j 8)), .int (zI (ct j 10))])), (g2, .inr (1, [.int (zI (ct j 7)), .int (zI (ct j 9)), .int (zI (ct j 11))])), ((ga j).1, .inr (0, [.int (zI (ct j 0)), .int (zI (ct j 1)), .int (zI (ct j 2)), .int (zI (ct j 3)), .int (zI (ct j 4)), .int (zI (ct j 5)), .ref (ga j).2.1, .ref (ga j).2.2])), ((ga j).2.1, .inr (1, [.int (zI (ct j 6)), .int (zI (ct j 8)), .int (zI (ct j 10))])), ((ga j).2.2, .inr (1, [.int (zI (ct j 7)), .int (zI (ct j 9)), .int (zI (ct j 11))]))] ++ pl_but 14 j (mo_F al ga ct)) rfl ?_
          refine hv_aload_n C dX4_givesBack_64 2 rfl ?_
          refine hv_iload_n C dX4_givesBack_65 1 rfl ?_
          refine hv_put C dX4_givesBack_66 (fun w h => hw_c (tw_u_4 w h)) tyX4 tyX4_ok nmX4 0 (ci := 2) (ty := .int) rfl rfl 2 (by decide) (hw_c tw_f_RX4_19) rfl rfl rfl rfl (Nat.le_of_ble_eq_true rfl) ?_
          refine hv_weq (ws' := [(mm, .inr (2, [.ref rr, .int (zI ((sz : Int))), .int (zI ((j : Int)))])), (rr, .inl (dA 5, 14, .inr (.inr (.inr (.inr (mo_f al ga)))))), (g0, .inr (0, [.int (zI (ct j 0)), .int (zI (ct j 1)), .int (zI (ct j 2)), .int (zI (ct j 3)), .int (zI (ct j 4)), .int (zI (ct j 5)), .ref g1, .ref g2])), (g1, .inr (1, [.int (zI (ct j 6)), .int (zI (ct j 8)), .int (zI (ct j 10))])), (g2, .inr (1, [.int (zI (ct j 7)), .int (zI (ct j 9)), .int (zI (ct j 11))])), ((ga j).1, .inr (0, [.int (zI (ct j 0)), .int (zI (ct j 1)), .int (zI (ct j 2)), .int (zI (ct j 3)), .int (zI (ct j 4)), .int (zI (ct j 5)), .ref (ga j).2.1, .ref (ga j).2.2])), ((ga j).2.1, .inr (1, [.int (zI (ct j 6)), .int (zI (ct j 8)), .int (zI (ct j 10))])), ((ga j).2.2, .inr (1, [.int (zI (ct j 7)), .int (zI (ct j 9)), .int (zI (ct j 11))]))] ++ pl_but 14 j (mo_F al ga ct)) rfl ?_
          refine hv_aload_n C dX4_givesBack_69 2 rfl ?_
          refine hv_dup C dX4_givesBack_70 rfl ?_
          refine hv_get C dX4_givesBack_71 (fun w h => hw_c (tw_u_4 w h)) 0 (ci := 2) rfl rfl 1 (by decide) (hw_c tw_f_RX4_15) rfl ?_
          refine hv_iconst C dX4_givesBack_74 (v := zI (1)) rfl ?_
          refine hv_isub C dX4_givesBack_75 (z := zI (((sz - 1 : Nat) : Int))) ((zI_sub _ _).trans (zI_c (by omega))) ?_
          refine hv_put C dX4_givesBack_76 (fun w h => hw_c (tw_u_4 w h)) tyX4 tyX4_ok nmX4 0 (ci := 2) (ty := .int) rfl rfl 1 (by decide) (hw_c tw_f_RX4_15) rfl rfl rfl rfl (Nat.le_of_ble_eq_true rfl) ?_
          refine hv_weq (ws' := [(mm, .inr (2, [.ref rr, .int (zI (((sz - 1 : Nat) : Int))), .int (zI ((j : Int)))])), (rr, .inl (dA 5, 14, .inr (.inr (.inr (.inr (mo_f al ga)))))), (g0, .inr (0, [.int (zI (ct j 0)), .int (zI (ct j 1)), .int (zI (ct j 2)), .int (zI (ct j 3)), .int (zI (ct j 4)), .int (zI (ct j 5)), .ref g1, .ref g2])), (g1, .inr (1, [.int (zI (ct j 6)), .int (zI (ct j 8)), .int (zI (ct j 10))])), (g2, .inr (1, [.int (zI (ct j 7)), .int (zI (ct j 9)), .int (zI (ct j 11))])), ((ga j).1, .inr (0, [.int (zI (ct j 0)), .int (zI (ct j 1)), .int (zI (ct j 2)), .int (zI (ct j 3)), .int (zI (ct j 4)), .int (zI (ct j 5)), .ref (ga j).2.1, .ref (ga j).2.2])), ((ga j).2.1, .inr (1, [.int (zI (ct j 6)), .int (zI (ct j 8)), .int (zI (ct j 10))])), ((ga j).2.2, .inr (1, [.int (zI (ct j 7)), .int (zI (ct j 9)), .int (zI (ct j 11))]))] ++ pl_but 14 j (mo_F al ga ct)) rfl ?_
          refine hv_iconst C dX4_givesBack_79 (v := zI (1)) rfl ?_
          exact hv_iret C M dX4_givesBack_80 rfl zB_n1 () trivial rfl [] (pl_ret (pl_inL [(mm, .inr (2, [.ref rr, .int (zI (((sz - 1 : Nat) : Int))), .int (zI ((j : Int)))])), (rr, .inl (dA 5, 14, .inr (.inr (.inr (.inr (mo_f al ga)))))), (g0, .inr (0, [.int (zI (ct j 0)), .int (zI (ct j 1)), .int (zI (ct j 2)), .int (zI (ct j 3)), .int (zI (ct j 4)), .int (zI (ct j 5)), .ref g1, .ref g2])), (g1, .inr (1, [.int (zI (ct j 6)), .int (zI (ct j 8)), .int (zI (ct j 10))])), (g2, .inr (1, [.int (zI (ct j 7)), .int (zI (ct j 9)), .int (zI (ct j 11))]))] (G3 (ga j).1 (ga j).2.1 (ga j).2.2 (ct j)) (by omega) (by unfold mo_F; rw [haj]; rfl) (fun _ _ _ => rfl))) (Nat.le_refl _) (Nat.le_refl _)
        · exfalso; omega
  · refine hv_aload_n C dX4_givesBack_7 0 rfl ?_
    refine hv_get C dX4_givesBack_8 (fun w h => hw_c (tw_u_4 w h)) 0 (ci := 2) rfl rfl 0 (by decide) (hw_c tw_f_RX4_9) rfl ?_
    refine hv_alen C 5 dX4_givesBack_11 1 rfl rfl (v := zI (14)) (rfl) ?_
    refine hv_iconst C dX4_givesBack_12 (v := zI (1)) rfl ?_
    refine hv_isub C dX4_givesBack_13 (z := zI (13)) ((zI_sub _ _).trans (zI_c (by rfl))) ?_
    refine hv_goto C dX4_givesBack_14 (tgt := 23) (by decide) ?_
    refine hv_topi (y := zI ((j : Int))) (by exact zI_c (by omega)) ?_
    refine hv_istore_n C dX4_givesBack_23 (lw := [(2, .int (zI ((j : Int)))), (0, .ref mm), (1, .ref g0)]) (by decide) rfl ?_
    refine hv_aload_n C dX4_givesBack_24 1 rfl ?_
    refine hv_get C dX4_givesBack_25 (fun w h => hw_c (tw_u_4 w h)) 0 (ci := 2) rfl rfl 1 (by decide) (hw_c tw_f_RX4_15) rfl ?_
    refine hv_if_eq C dX4_givesBack_28 (tgt := 44) (by decide) (zI_eq0 (by omega)) (fun hc28 => ?_) (fun hc28 => ?_)
    · exfalso; omega
    · refine hv_iload_n C dX4_givesBack_31 0 rfl ?_
      refine hv_if_lt C dX4_givesBack_32 (tgt := 44) (by decide) (zI_lt0 (by omega)) (fun hc32 => ?_) (fun hc32 => ?_)
      · exfalso; omega
      · refine hv_iload_n C dX4_givesBack_35 0 rfl ?_
        refine hv_aload_n C dX4_givesBack_36 1 rfl ?_
        refine hv_get C dX4_givesBack_37 (fun w h => hw_c (tw_u_4 w h)) 0 (ci := 2) rfl rfl 0 (by decide) (hw_c tw_f_RX4_9) rfl ?_
        refine hv_alen C 5 dX4_givesBack_40 1 rfl rfl (v := zI (14)) (rfl) ?_
        refine hv_icmp_lt C dX4_givesBack_41 (tgt := 46) (by decide) (zI_lt (by omega)) (fun hc41 => ?_) (fun hc41 => ?_)
        · refine hv_aload_n C dX4_givesBack_46 1 rfl ?_
          refine hv_get C dX4_givesBack_47 (fun w h => hw_c (tw_u_4 w h)) 0 (ci := 2) rfl rfl 0 (by decide) (hw_c tw_f_RX4_9) rfl ?_
          refine hv_iload_n C dX4_givesBack_50 0 rfl ?_
          refine hv_aald C dX4_givesBack_51 1 5 rfl rfl (j) (zI_ix (by omega)) (by omega) (by omega) ?_
          refine hv_eqst (st' := [.ref (ga j).1]) (by unfold mo_f; rw [haj]; rfl) ?_
          refine hv_astore_n C dX4_givesBack_52 (lw := [(3, .ref (ga j).1), (2, .int (zI ((j : Int)))), (0, .ref mm), (1, .ref g0)]) (by decide) rfl ?_
          refine hv_aload_n C dX4_givesBack_53 0 rfl ?_
          refine hv_ifnonnull C dX4_givesBack_54 (tgt := 59) (by decide) ?_
          refine hv_aload_n C dX4_givesBack_59 3 rfl ?_
          refine hv_aload_n C dX4_givesBack_60 0 rfl ?_
          refine hv_perm (ws' := [(mm, .inr (2, [.ref rr, .int (zI ((sz : Int))), .int (zI ((nx : Int)))])), (rr, .inl (dA 5, 14, .inr (.inr (.inr (.inr (mo_f al ga)))))), (g0, .inr (0, [.int (zI (g 0)), .int (zI (g 1)), .int (zI (g 2)), .int (zI (g 3)), .int (zI (g 4)), .int (zI (g 5)), .ref g1, .ref g2])), (g1, .inr (1, [.int (zI (g 6)), .int (zI (g 8)), .int (zI (g 10))])), (g2, .inr (1, [.int (zI (g 7)), .int (zI (g 9)), .int (zI (g 11))])), ((ga j).1, .inr (0, [.int (zI (ct j 0)), .int (zI (ct j 1)), .int (zI (ct j 2)), .int (zI (ct j 3)), .int (zI (ct j 4)), .int (zI (ct j 5)), .ref (ga j).2.1, .ref (ga j).2.2])), ((ga j).2.1, .inr (1, [.int (zI (ct j 6)), .int (zI (ct j 8)), .int (zI (ct j 10))])), ((ga j).2.2, .inr (1, [.int (zI (ct j 7)), .int (zI (ct j 9)), .int (zI (ct j 11))]))] ++ pl_but 14 j (mo_F al ga ct)) (pl_outL [(mm, .inr (2, [.ref rr, .int (zI ((sz : Int))), .int (zI ((nx : Int)))])), (rr, .inl (dA 5, 14, .inr (.inr (.inr (.inr (mo_f al ga)))))), (g0, .inr (0, [.int (zI (g 0)), .int (zI (g 1)), .int (zI (g 2)), .int (zI (g 3)), .int (zI (g 4)), .int (zI (g 5)), .ref g1, .ref g2])), (g1, .inr (1, [.int (zI (g 6)), .int (zI (g 8)), .int (zI (g 10))])), (g2, .inr (1, [.int (zI (g 7)), .int (zI (g 9)), .int (zI (g 11))]))] (G3 (ga j).1 (ga j).2.1 (ga j).2.2 (ct j)) (by omega) (by unfold mo_F; rw [haj]; rfl)) ?_
          refine hv_callV (As := [.ref (ga j).1]) (rest := []) (wc := [(g0, .inr (0, [.int (zI (g 0)), .int (zI (g 1)), .int (zI (g 2)), .int (zI (g 3)), .int (zI (g 4)), .int (zI (g 5)), .ref g1, .ref g2])), (g1, .inr (1, [.int (zI (g 6)), .int (zI (g 8)), .int (zI (g 10))])), (g2, .inr (1, [.int (zI (g 7)), .int (zI (g 9)), .int (zI (g 11))])), ((ga j).1, .inr (0, [.int (zI (ct j 0)), .int (zI (ct j 1)), .int (zI (ct j 2)), .int (zI (ct j 3)), .int (zI (ct j 4)), .int (zI (ct j 5)), .ref (ga j).2.1, .ref (ga j).2.2])), ((ga j).2.1, .inr (1, [.int (zI (ct j 6)), .int (zI (ct j 8)), .int (zI (ct j 10))])), ((ga j).2.2, .inr (1, [.int (zI (ct j 7)), .int (zI (ct j 9)), .int (zI (ct j 11))]))]) (wr := [(mm, .inr (2, [.ref rr, .int (zI ((sz : Int))), .int (zI ((nx : Int)))])), (rr, .inl (dA 5, 14, .inr (.inr (.inr (.inr (mo_f al ga))))))] ++ pl_but 14 j (mo_F al ga ct)) C (k_X1_becomes l D dA g0 g1 g2 (ga j).1 (ga j).2.1 (ga j).2.2 g (ct j)) (cwV 1 C.1.2.2.2.2 (hw_V tw_m_RX4_23 tw_i_X1_becomes tw_s_X1_becomes tw_n_RX1 tw_k_X1_becomes) rfl rfl rfl (by decide +kernel) ⟨Nat.le_of_ble_eq_true rfl, Nat.le_of_ble_eq_true rfl⟩) (hv_pm [2, 2, 2, 2, 2, 2] rfl) rfl 0 0 rfl rfl rfl (Nat.le_of_ble_eq_true rfl) dX4_givesBack_61 ⟨Nat.le_of_ble_eq_true rfl, Nat.le_of_ble_eq_true rfl⟩ (fun _ _ => ?_)
          refine hv_eqst (st' := []) rfl ?_
          refine hv_weq (ws' := [(g0, .inr (0, [.int (zI (ct j 0)), .int (zI (ct j 1)), .int (zI (ct j 2)), .int (zI (ct j 3)), .int (zI (ct j 4)), .int (zI (ct j 5)), .ref g1, .ref g2])), (g1, .inr (1, [.int (zI (ct j 6)), .int (zI (ct j 8)), .int (zI (ct j 10))])), (g2, .inr (1, [.int (zI (ct j 7)), .int (zI (ct j 9)), .int (zI (ct j 11))])), ((ga j).1, .inr (0, [.int (zI (ct j 0)), .int (zI (ct j 1)), .int (zI (ct j 2)), .int (zI (ct j 3)), .int (zI (ct j 4)), .int (zI (ct j 5)), .ref (ga j).2.1, .ref (ga j).2.2])), ((ga j).2.1, .inr (1, [.int (zI (ct j 6)), .int (zI (ct j 8)), .int (zI (ct j 10))])), ((ga j).2.2, .inr (1, [.int (zI (ct j 7)), .int (zI (ct j 9)), .int (zI (ct j 11))])), (mm, .inr (2, [.ref rr, .int (zI ((sz : Int))), .int (zI ((nx : Int)))])), (rr, .inl (dA 5, 14, .inr (.inr (.inr (.inr (mo_f al ga))))))] ++ pl_but 14 j (mo_F al ga ct)) (rfl) ?_
          refine hv_srt [6, 6, 0, 0, 0, 0, 0, 0] (ws' := [(mm, .inr (2, [.ref rr, .int (zI ((sz : Int))), .int (zI ((nx : Int)))])), (rr, .inl (dA 5, 14, .inr (.inr (.inr (.inr (mo_f al ga)))))), (g0, .inr (0, [.int (zI (ct j 0)), .int (zI (ct j 1)), .int (zI (ct j 2)), .int (zI (ct j 3)), .int (zI (ct j 4)), .int (zI (ct j 5)), .ref g1, .ref g2])), (g1, .inr (1, [.int (zI (ct j 6)), .int (zI (ct j 8)), .int (zI (ct j 10))])), (g2, .inr (1, [.int (zI (ct j 7)), .int (zI (ct j 9)), .int (zI (ct j 11))])), ((ga j).1, .inr (0, [.int (zI (ct j 0)), .int (zI (ct j 1)), .int (zI (ct j 2)), .int (zI (ct j 3)), .int (zI (ct j 4)), .int (zI (ct j 5)), .ref (ga j).2.1, .ref (ga j).2.2])), ((ga j).2.1, .inr (1, [.int (zI (ct j 6)), .int (zI (ct j 8)), .int (zI (ct j 10))])), ((ga j).2.2, .inr (1, [.int (zI (ct j 7)), .int (zI (ct j 9)), .int (zI (ct j 11))]))] ++ pl_but 14 j (mo_F al ga ct)) rfl ?_
          refine hv_aload_n C dX4_givesBack_64 2 rfl ?_
          refine hv_iload_n C dX4_givesBack_65 1 rfl ?_
          refine hv_put C dX4_givesBack_66 (fun w h => hw_c (tw_u_4 w h)) tyX4 tyX4_ok nmX4 0 (ci := 2) (ty := .int) rfl rfl 2 (by decide) (hw_c tw_f_RX4_19) rfl rfl rfl rfl (Nat.le_of_ble_eq_true rfl) ?_
          refine hv_weq (ws' := [(mm, .inr (2, [.ref rr, .int (zI ((sz : Int))), .int (zI ((j : Int)))])), (rr, .inl (dA 5, 14, .inr (.inr (.inr (.inr (mo_f al ga)))))), (g0, .inr (0, [.int (zI (ct j 0)), .int (zI (ct j 1)), .int (zI (ct j 2)), .int (zI (ct j 3)), .int (zI (ct j 4)), .int (zI (ct j 5)), .ref g1, .ref g2])), (g1, .inr (1, [.int (zI (ct j 6)), .int (zI (ct j 8)), .int (zI (ct j 10))])), (g2, .inr (1, [.int (zI (ct j 7)), .int (zI (ct j 9)), .int (zI (ct j 11))])), ((ga j).1, .inr (0, [.int (zI (ct j 0)), .int (zI (ct j 1)), .int (zI (ct j 2)), .int (zI (ct j 3)), .int (zI (ct j 4)), .int (zI (ct j 5)), .ref (ga j).2.1, .ref (ga j).2.2])), ((ga j).2.1, .inr (1, [.int (zI (ct j 6)), .int (zI (ct j 8)), .int (zI (ct j 10))])), ((ga j).2.2, .inr (1, [.int (zI (ct j 7)), .int (zI (ct j 9)), .int (zI (ct j 11))]))] ++ pl_but 14 j (mo_F al ga ct)) rfl ?_
          refine hv_aload_n C dX4_givesBack_69 2 rfl ?_
          refine hv_dup C dX4_givesBack_70 rfl ?_
          refine hv_get C dX4_givesBack_71 (fun w h => hw_c (tw_u_4 w h)) 0 (ci := 2) rfl rfl 1 (by decide) (hw_c tw_f_RX4_15) rfl ?_
          refine hv_iconst C dX4_givesBack_74 (v := zI (1)) rfl ?_
          refine hv_isub C dX4_givesBack_75 (z := zI (((sz - 1 : Nat) : Int))) ((zI_sub _ _).trans (zI_c (by omega))) ?_
          refine hv_put C dX4_givesBack_76 (fun w h => hw_c (tw_u_4 w h)) tyX4 tyX4_ok nmX4 0 (ci := 2) (ty := .int) rfl rfl 1 (by decide) (hw_c tw_f_RX4_15) rfl rfl rfl rfl (Nat.le_of_ble_eq_true rfl) ?_
          refine hv_weq (ws' := [(mm, .inr (2, [.ref rr, .int (zI (((sz - 1 : Nat) : Int))), .int (zI ((j : Int)))])), (rr, .inl (dA 5, 14, .inr (.inr (.inr (.inr (mo_f al ga)))))), (g0, .inr (0, [.int (zI (ct j 0)), .int (zI (ct j 1)), .int (zI (ct j 2)), .int (zI (ct j 3)), .int (zI (ct j 4)), .int (zI (ct j 5)), .ref g1, .ref g2])), (g1, .inr (1, [.int (zI (ct j 6)), .int (zI (ct j 8)), .int (zI (ct j 10))])), (g2, .inr (1, [.int (zI (ct j 7)), .int (zI (ct j 9)), .int (zI (ct j 11))])), ((ga j).1, .inr (0, [.int (zI (ct j 0)), .int (zI (ct j 1)), .int (zI (ct j 2)), .int (zI (ct j 3)), .int (zI (ct j 4)), .int (zI (ct j 5)), .ref (ga j).2.1, .ref (ga j).2.2])), ((ga j).2.1, .inr (1, [.int (zI (ct j 6)), .int (zI (ct j 8)), .int (zI (ct j 10))])), ((ga j).2.2, .inr (1, [.int (zI (ct j 7)), .int (zI (ct j 9)), .int (zI (ct j 11))]))] ++ pl_but 14 j (mo_F al ga ct)) rfl ?_
          refine hv_iconst C dX4_givesBack_79 (v := zI (1)) rfl ?_
          exact hv_iret C M dX4_givesBack_80 rfl zB_n1 () trivial rfl [] (pl_ret (pl_inL [(mm, .inr (2, [.ref rr, .int (zI (((sz - 1 : Nat) : Int))), .int (zI ((j : Int)))])), (rr, .inl (dA 5, 14, .inr (.inr (.inr (.inr (mo_f al ga)))))), (g0, .inr (0, [.int (zI (ct j 0)), .int (zI (ct j 1)), .int (zI (ct j 2)), .int (zI (ct j 3)), .int (zI (ct j 4)), .int (zI (ct j 5)), .ref g1, .ref g2])), (g1, .inr (1, [.int (zI (ct j 6)), .int (zI (ct j 8)), .int (zI (ct j 10))])), (g2, .inr (1, [.int (zI (ct j 7)), .int (zI (ct j 9)), .int (zI (ct j 11))]))] (G3 (ga j).1 (ga j).2.1 (ga j).2.2 (ct j)) (by omega) (by unfold mo_F; rw [haj]; rfl) (fun _ _ _ => rfl))) (Nat.le_refl _) (Nat.le_refl _)
        · exfalso; omega

set_option maxHeartbeats 4000000 in
set_option maxRecDepth 100000 in
theorem k_X4_givesBack_f (l : Launch) (D : va_G) (dA : Nat → ClassId) (mm rr g0 : Nat) (sz nx : Nat) (f9 : Nat → Option Nat) (h0 : sz = 0) (hnx : nx ≤ 14) : hv_Ct l yX4_givesBack (hw_W yX4_givesBack cX4_givesBack 4 (some .boolean)) 0 D dA [.ref mm, .ref g0] ([(mm, .inr (2, [.ref rr, .int (zI ((sz : Int))), .int (zI ((nx : Int)))])), (rr, .inl (dA 5, 14, .inr (.inr (.inr (.inr (f9))))))]) 0 0 (S := Unit) (fun _ => some (.int (zI 0))) (fun _ => True) (fun _ => [(mm, .inr (2, [.ref rr, .int (zI ((sz : Int))), .int (zI ((nx : Int)))])), (rr, .inl (dA 5, 14, .inr (.inr (.inr (.inr (f9))))))]) := by
  refine hv_of (cc := cX4_givesBack) (maxL := 4) (ret := (some .boolean)) (own := RX4) rfl (by decide) rfl (Nat.le_of_ble_eq_true rfl) ?_
  intro p e s m args below meth c C M
  refine hv_lveq (lv' := [(0, .ref mm), (1, .ref g0)]) rfl ?_
  refine hv_aload_n C dX4_givesBack_0 0 rfl ?_
  refine hv_get C dX4_givesBack_1 (fun w h => hw_c (tw_u_4 w h)) 0 (ci := 2) rfl rfl 2 (by decide) (hw_c tw_f_RX4_19) rfl ?_
  refine hv_if_ne C dX4_givesBack_4 (tgt := 17) (by decide) (zI_ne0 (by omega)) (fun hc4 => ?_) (fun hc4 => ?_)
  · refine hv_aload_n C dX4_givesBack_17 0 rfl ?_
    refine hv_get C dX4_givesBack_18 (fun w h => hw_c (tw_u_4 w h)) 0 (ci := 2) rfl rfl 2 (by decide) (hw_c tw_f_RX4_19) rfl ?_
    refine hv_iconst C dX4_givesBack_21 (v := zI (1)) rfl ?_
    refine hv_isub C dX4_givesBack_22 (zI_sub _ _) ?_
    refine hv_istore_n C dX4_givesBack_23 (lw := [(2, .int (zI (((nx : Int)) - (1)))), (0, .ref mm), (1, .ref g0)]) (by decide) rfl ?_
    refine hv_aload_n C dX4_givesBack_24 1 rfl ?_
    refine hv_get C dX4_givesBack_25 (fun w h => hw_c (tw_u_4 w h)) 0 (ci := 2) rfl rfl 1 (by decide) (hw_c tw_f_RX4_15) rfl ?_
    refine hv_if_eq C dX4_givesBack_28 (tgt := 44) (by decide) (zI_eq0 (by omega)) (fun hc28 => ?_) (fun hc28 => ?_)
    · refine hv_iconst C dX4_givesBack_44 (v := zI (0)) rfl ?_
      exact hv_iret C M dX4_givesBack_45 rfl zB_n2 () trivial rfl [] (pl_ret (List.Perm.refl _)) (Nat.le_refl _) (Nat.le_refl _)
    · exfalso; omega
  · refine hv_aload_n C dX4_givesBack_7 0 rfl ?_
    refine hv_get C dX4_givesBack_8 (fun w h => hw_c (tw_u_4 w h)) 0 (ci := 2) rfl rfl 0 (by decide) (hw_c tw_f_RX4_9) rfl ?_
    refine hv_alen C 5 dX4_givesBack_11 1 rfl rfl (v := zI (14)) (rfl) ?_
    refine hv_iconst C dX4_givesBack_12 (v := zI (1)) rfl ?_
    refine hv_isub C dX4_givesBack_13 (z := zI (13)) ((zI_sub _ _).trans (zI_c (by rfl))) ?_
    refine hv_goto C dX4_givesBack_14 (tgt := 23) (by decide) ?_
    refine hv_istore_n C dX4_givesBack_23 (lw := [(2, .int (zI (13))), (0, .ref mm), (1, .ref g0)]) (by decide) rfl ?_
    refine hv_aload_n C dX4_givesBack_24 1 rfl ?_
    refine hv_get C dX4_givesBack_25 (fun w h => hw_c (tw_u_4 w h)) 0 (ci := 2) rfl rfl 1 (by decide) (hw_c tw_f_RX4_15) rfl ?_
    refine hv_if_eq C dX4_givesBack_28 (tgt := 44) (by decide) (zI_eq0 (by omega)) (fun hc28 => ?_) (fun hc28 => ?_)
    · refine hv_iconst C dX4_givesBack_44 (v := zI (0)) rfl ?_
      exact hv_iret C M dX4_givesBack_45 rfl zB_n2 () trivial rfl [] (pl_ret (List.Perm.refl _)) (Nat.le_refl _) (Nat.le_refl _)
    · exfalso; omega

/-! outlooks: for each number of stems, wind and setting 1 one place -/
def ol_f (al : Nat → Bool) (oa : Nat → Nat × Nat × Nat) : Nat → Option Nat := fun j => if al j = true then some (oa j).1 else none
def ol_F (dA : Nat → ClassId) (al : Nat → Bool) (oa : Nat → Nat × Nat × Nat) (kf : Nat → Nat → Int32) : Nat → va_W := fun j => if al j = true then O3 dA (oa j).1 (oa j).2.1 (oa j).2.2 (j / 9 + 2) (j / 3 % 3) (j % 3 + 1) (kf j) else []
def ol_ok (al : Nat → Bool) (kf : Nat → Nat → Int32) : Prop := ∀ j, j < 45 → al j = true → wo_kn (j / 9 + 2) (j / 3 % 3) (j % 3 + 1) (kf j)
def ol_kf (kf : Nat → Nat → Int32) (j : Nat) (k : Nat → Int32) : Nat → Nat → Int32 := fun i => if i = j then k else kf i
theorem ol_f_new (al : Nat → Bool) (oa : Nat → Nat × Nat × Nat) (j : Nat) (a : Nat × Nat × Nat) : va_up (ol_f al oa) j (some a.1) = ol_f (mo_al al j) (mo_ga oa j a) := mo_f_new al oa j a
theorem ol_F_here {dA : Nat → ClassId} {al : Nat → Bool} {oa : Nat → Nat × Nat × Nat} {kf : Nat → Nat → Int32} {j : Nat} {k : Nat → Int32} : ol_F dA (mo_al al j) oa (ol_kf kf j k) j = O3 dA (oa j).1 (oa j).2.1 (oa j).2.2 (j / 9 + 2) (j / 3 % 3) (j % 3 + 1) k := by
  unfold ol_F mo_al ol_kf
  rw [if_pos (if_pos rfl), if_pos rfl]
theorem ol_F_there {dA : Nat → ClassId} {al : Nat → Bool} {oa oa' : Nat → Nat × Nat × Nat} {kf : Nat → Nat → Int32} {j : Nat} {k : Nat → Int32} (hg : ∀ i, i ≠ j → oa' i = oa i) {n : Nat} : ∀ i, i < n → i ≠ j → ol_F dA (mo_al al j) oa' (ol_kf kf j k) i = ol_F dA al oa kf i := by
  intro i _ q
  unfold ol_F mo_al ol_kf
  rw [if_neg (c := i = j) q, if_neg (c := i = j) q, hg i q]
theorem ol_F_set {dA : Nat → ClassId} {al : Nat → Bool} {oa : Nat → Nat × Nat × Nat} {kf : Nat → Nat → Int32} {j : Nat} {k : Nat → Int32} {n : Nat} : ∀ i, i < n → i ≠ j → ol_F dA al oa (ol_kf kf j k) i = ol_F dA al oa kf i := by
  intro i _ q
  unfold ol_F ol_kf
  rw [if_neg (c := i = j) q]
theorem ol_ok_kf {al : Nat → Bool} {kf : Nat → Nat → Int32} {j : Nat} {k : Nat → Int32} (h : ol_ok al kf) (hk : wo_kn (j / 9 + 2) (j / 3 % 3) (j % 3 + 1) k) : ol_ok al (ol_kf kf j k) := by
  intro i hi ha
  unfold ol_kf
  by_cases q : i = j
  · subst q
    rw [if_pos rfl]
    exact hk
  · rw [if_neg q]
    exact h i hi ha
theorem ol_ok_al {al : Nat → Bool} {kf : Nat → Nat → Int32} {j : Nat} {k : Nat → Int32} (h : ol_ok al kf) (hk : wo_kn (j / 9 + 2) (j / 3 % 3) (j % 3 + 1) k) : ol_ok (mo_al al j) (ol_kf kf j k) := by
  intro i hi ha
  unfold ol_kf
  by_cases q : i = j
  · subst q
    rw [if_pos rfl]
    exact hk
  · rw [if_neg q]
    unfold mo_al at ha
    rw [if_neg q] at ha
    exact h i hi ha
theorem wo_kn0 (S w r : Nat) : wo_kn S w r (fun _ => 0) := fun h _ => Or.inl rfl

set_option maxHeartbeats 4000000 in
set_option maxRecDepth 100000 in
theorem k_X6_init (l : Launch) (D : va_G) (dA : Nat → ClassId) (oo : Nat) : hv_Ct l yX6_init (hw_W yX6_init cX6_init 1 none) 1 D dA [.ref oo] ([(oo, .inr (4, [.null]))]) 1 45 (S := Nat) (fun _ => none) (fun _ => True) (fun u => [(oo, .inr (4, [.ref u])), (u, .inl (dA 6, 45, .inr (.inr (.inr (.inr (fun _ => none))))))]) := by
  refine hv_of (cc := cX6_init) (maxL := 1) (ret := none) (own := RX6) rfl (by decide) rfl (Nat.le_of_ble_eq_true rfl) ?_
  intro p e s m args below meth c C M
  refine hv_lveq (lv' := [(0, .ref oo)]) rfl ?_
  refine hv_aload_n C dX6_init_0 0 rfl ?_
  refine hv_obj C dX6_init_1 (hw_c tw_m_RX6_3) (hw_c tw_i_objectInit) (hw_c tw_k_objectInit) (Nat.le_of_ble_eq_true rfl) ⟨Nat.le_of_ble_eq_true rfl, Nat.le_of_ble_eq_true rfl⟩ ?_
  refine hv_aload_n C dX6_init_4 0 rfl ?_
  refine hv_bipush C dX6_init_5 (v := zI (45)) (by decide +kernel) ?_
  refine hv_newq C dX6_init_7 (hw_c tw_c_RX6_9) C.2.2.2.2.2.2.use 6 rfl (N' := 45) rfl (by decide) (Nat.le_of_ble_eq_true rfl) (Nat.le_of_ble_eq_true rfl) (fun q1 => ?_)
  refine hv_weq (ws' := [(oo, .inr (4, [.null])), (q1, .inl (dA 6, 45, .inr (.inr (.inr (.inr (fun _ => none))))))]) rfl ?_
  refine hv_putF C dX6_init_10 (fun w h => hw_c (tw_u_6 w h)) tyX6 tyX6_ok nmX6 0 (ci := 4) (ty := (.array (.object "HedgeClips$Outlook"))) rfl rfl 0 (by decide) (hw_c tw_f_RX6_11) rfl M.2.2 rfl rfl rfl rfl (Nat.le_of_ble_eq_true rfl) ?_
  refine hv_weq (ws' := [(oo, .inr (4, [.ref q1])), (q1, .inl (dA 6, 45, .inr (.inr (.inr (.inr (fun _ => none))))))]) rfl ?_
  exact hv_vret C M dX6_init_13 rfl q1 trivial rfl [] (List.Perm.of_eq (by first | rfl | exact (List.append_nil _).symm)) (Nat.le_refl _) (Nat.le_refl _)

def ol_c (al : Nat → Bool) (j : Nat) : Nat := if al j = true then 0 else 3
def ol_s (al : Nat → Bool) (j S : Nat) : Nat := if al j = true then 0 else 50 + 4 ^ S
def ol_k0 (al : Nat → Bool) (kf : Nat → Nat → Int32) (j : Nat) : Nat → Int32 := if al j = true then kf j else fun _ => 0
theorem ol_c_f {al : Nat → Bool} {j : Nat} (h : al j = false) : ol_c al j = 3 := by unfold ol_c; rw [h]; rfl
theorem ol_s_f {al : Nat → Bool} {j S : Nat} (h : al j = false) : ol_s al j S = 50 + 4 ^ S := by unfold ol_s; rw [h]; rfl
theorem ol_k0_t {al : Nat → Bool} {kf : Nat → Nat → Int32} {j : Nat} (h : al j = true) : ol_k0 al kf j = kf j := if_pos h
theorem ol_k0_f {al : Nat → Bool} {kf : Nat → Nat → Int32} {j : Nat} (h : al j = false) : ol_k0 al kf j = fun _ => 0 := by unfold ol_k0; rw [h]; rfl
theorem ol_f_old {al : Nat → Bool} {ga : Nat → Nat × Nat × Nat} {j : Nat} (h : al j = true) : ol_f al ga = ol_f (mo_al al j) ga := mo_f_old h
theorem mo_al_idem (al : Nat → Bool) (j : Nat) : mo_al (mo_al al j) j = mo_al al j := by
  funext i
  unfold mo_al
  by_cases q : i = j
  · rw [if_pos q, if_pos q]
  · rw [if_neg q]
theorem ol_c_idem (al : Nat → Bool) (j : Nat) : ol_c (mo_al al j) j = 0 := if_pos (if_pos rfl)
theorem ol_s_idem (al : Nat → Bool) (j S : Nat) : ol_s (mo_al al j) j S = 0 := if_pos (if_pos rfl)
theorem ol_c_le (al : Nat → Bool) (j : Nat) : ol_c al j ≤ 3 := by unfold ol_c; split <;> omega
theorem ol_s_le (al : Nat → Bool) (j : Nat) {S : Nat} (hS : S ≤ 6) : ol_s al j S ≤ 4146 := by
  have := sp_4S hS
  unfold ol_s
  split <;> omega
theorem ol_k0_ok {al : Nat → Bool} {kf : Nat → Nat → Int32} {j : Nat} (h : ol_ok al kf) (hj : j < 45) : wo_kn (j / 9 + 2) (j / 3 % 3) (j % 3 + 1) (ol_k0 al kf j) := by
  unfold ol_k0
  split
  · next q => exact h j hj q
  · exact wo_kn0 _ _ _

set_option maxHeartbeats 4000000 in
set_option maxRecDepth 100000 in
theorem k_X6_of_t (l : Launch) (D : va_G) (dA : Nat → ClassId) (oo ma g0 g1 g2 : Nat) (g : Nat → Int) (S w r j : Nat) (eS : g 0 = (S : Int)) (hS : 2 ≤ S ∧ S ≤ 6) (ew : g 2 = (w : Int)) (hw : w < 3) (er : g 5 = (r : Int)) (hr : 1 ≤ r ∧ r ≤ 3) (ej : j = ((S - 2) * 3 + w) * 3 + r - 1) (al : Nat → Bool) (oa : Nat → Nat × Nat × Nat) (kf : Nat → Nat → Int32) (haj : al j = true) : hv_Ct l yX6_of (hw_W yX6_of cX6_of 4 (some (.object "HedgeClips$Outlook"))) 3 D dA [.ref oo, .ref g0] ([(oo, .inr (4, [.ref ma])), (ma, .inl (dA 6, 45, .inr (.inr (.inr (.inr (ol_f al oa)))))), (g0, .inr (0, [.int (zI (g 0)), .int (zI (g 1)), .int (zI (g 2)), .int (zI (g 3)), .int (zI (g 4)), .int (zI (g 5)), .ref g1, .ref g2])), (g1, .inr (1, [.int (zI (g 6)), .int (zI (g 8)), .int (zI (g 10))])), (g2, .inr (1, [.int (zI (g 7)), .int (zI (g 9)), .int (zI (g 11))]))] ++ pl_all 45 (ol_F dA al oa kf)) (ol_c al j) (ol_s al j S) (S := Nat → Nat × Nat × Nat) (fun u => some (.ref (u j).1)) (fun u => ∀ i, i ≠ j → u i = oa i) (fun u => [(oo, .inr (4, [.ref ma])), (ma, .inl (dA 6, 45, .inr (.inr (.inr (.inr (ol_f (mo_al al j) u)))))), (g0, .inr (0, [.int (zI (g 0)), .int (zI (g 1)), .int (zI (g 2)), .int (zI (g 3)), .int (zI (g 4)), .int (zI (g 5)), .ref g1, .ref g2])), (g1, .inr (1, [.int (zI (g 6)), .int (zI (g 8)), .int (zI (g 10))])), (g2, .inr (1, [.int (zI (g 7)), .int (zI (g 9)), .int (zI (g 11))]))] ++ (O3 dA (u j).1 (u j).2.1 (u j).2.2 S w r (ol_k0 al kf j) ++ pl_but 45 j (ol_F dA al oa kf))) := by
  have e1 : j / 9 + 2 = S := by omega
  have e2 : j / 3 % 3 = w := by omega
  have e3 : j % 3 + 1 = r := by omega
  refine hv_of (cc := cX6_of) (maxL := 4) (ret := (some (.object "HedgeClips$Outlook"))) (own := RX6) rfl (by decide) rfl (Nat.le_of_ble_eq_true rfl) ?_
  intro p e s m args below meth c C M
  refine hv_lveq (lv' := [(0, .ref oo), (1, .ref g0)]) rfl ?_
  refine hv_aload_n C dX6_of_0 1 rfl ?_
  refine hv_getN C dX6_of_1 (fun w h => hw_c (tw_u_1 w h)) 2 (ci := 0) rfl rfl 0 (by decide) tw_fn_RX6_17 rfl ?_
  refine hv_iconst C dX6_of_4 (v := zI (2)) rfl ?_
  refine hv_isub C dX6_of_5 (zI_sub _ _) ?_
  refine hv_iconst C dX6_of_6 (v := zI (3)) rfl ?_
  refine hv_imul C dX6_of_7 (zI_mul _ _) ?_
  refine hv_aload_n C dX6_of_8 1 rfl ?_
  refine hv_getN C dX6_of_9 (fun w h => hw_c (tw_u_1 w h)) 2 (ci := 0) rfl rfl 2 (by decide) tw_fn_RX6_23 rfl ?_
  refine hv_iadd C dX6_of_12 (zI_add _ _) ?_
  refine hv_iconst C dX6_of_13 (v := zI (3)) rfl ?_
  refine hv_imul C dX6_of_14 (zI_mul _ _) ?_
  refine hv_aload_n C dX6_of_15 1 rfl ?_
  refine hv_getN C dX6_of_16 (fun w h => hw_c (tw_u_1 w h)) 2 (ci := 0) rfl rfl 5 (by decide) tw_fn_RX6_26 rfl ?_
  refine hv_iadd C dX6_of_19 (zI_add _ _) ?_
  refine hv_iconst C dX6_of_20 (v := zI (1)) rfl ?_
  refine hv_isub C dX6_of_21 (z := zI ((j : Int))) ((zI_sub _ _).trans (zI_c (by omega))) ?_
  refine hv_istore_n C dX6_of_22 (lw := [(2, .int (zI ((j : Int)))), (0, .ref oo), (1, .ref g0)]) (by decide) rfl ?_
  refine hv_iload_n C dX6_of_23 0 rfl ?_
  refine hv_if_lt C dX6_of_24 (tgt := 36) (by decide) (zI_lt0 (by omega)) (fun hc24 => ?_) (fun hc24 => ?_)
  · exfalso; omega
  · refine hv_iload_n C dX6_of_27 0 rfl ?_
    refine hv_aload_n C dX6_of_28 1 rfl ?_
    refine hv_get C dX6_of_29 (fun w h => hw_c (tw_u_6 w h)) 0 (ci := 4) rfl rfl 0 (by decide) (hw_c tw_f_RX6_11) rfl ?_
    refine hv_alen C 6 dX6_of_32 1 rfl rfl (v := zI (45)) (rfl) ?_
    refine hv_icmp_lt C dX6_of_33 (tgt := 56) (by decide) (zI_lt (by omega)) (fun hc33 => ?_) (fun hc33 => ?_)
    · refine hv_aload_n C dX6_of_56 1 rfl ?_
      refine hv_get C dX6_of_57 (fun w h => hw_c (tw_u_6 w h)) 0 (ci := 4) rfl rfl 0 (by decide) (hw_c tw_f_RX6_11) rfl ?_
      refine hv_iload_n C dX6_of_60 0 rfl ?_
      refine hv_aald C dX6_of_61 1 6 rfl rfl (j) (zI_ix (by omega)) (by omega) (by omega) ?_
      refine hv_eqst (st' := [.ref (oa j).1]) (by unfold ol_f; rw [haj]; rfl) ?_
      refine hv_astore_n C dX6_of_62 (lw := [(3, .ref (oa j).1), (2, .int (zI ((j : Int)))), (0, .ref oo), (1, .ref g0)]) (by decide) rfl ?_
      refine hv_aload_n C dX6_of_63 0 rfl ?_
      refine hv_ifnonnull C dX6_of_64 (tgt := 94) (by decide) ?_
      refine hv_aload_n C dX6_of_94 0 rfl ?_
      refine hv_weq (ws' := [(oo, .inr (4, [.ref ma])), (ma, .inl (dA 6, 45, .inr (.inr (.inr (.inr (ol_f (mo_al al j) oa)))))), (g0, .inr (0, [.int (zI (g 0)), .int (zI (g 1)), .int (zI (g 2)), .int (zI (g 3)), .int (zI (g 4)), .int (zI (g 5)), .ref g1, .ref g2])), (g1, .inr (1, [.int (zI (g 6)), .int (zI (g 8)), .int (zI (g 10))])), (g2, .inr (1, [.int (zI (g 7)), .int (zI (g 9)), .int (zI (g 11))]))] ++ pl_all 45 (ol_F dA al oa kf)) (by rw [ol_f_old haj]) ?_
      exact hv_aret C M dX6_of_95 rfl (Or.inl ⟨_, rfl⟩) oa (fun _ _ => rfl) rfl [] (pl_ret ((pl_outL [(oo, .inr (4, [.ref ma])), (ma, .inl (dA 6, 45, .inr (.inr (.inr (.inr (ol_f (mo_al al j) oa)))))), (g0, .inr (0, [.int (zI (g 0)), .int (zI (g 1)), .int (zI (g 2)), .int (zI (g 3)), .int (zI (g 4)), .int (zI (g 5)), .ref g1, .ref g2])), (g1, .inr (1, [.int (zI (g 6)), .int (zI (g 8)), .int (zI (g 10))])), (g2, .inr (1, [.int (zI (g 7)), .int (zI (g 9)), .int (zI (g 11))]))] (O3 dA (oa j).1 (oa j).2.1 (oa j).2.2 S w r (ol_k0 al kf j)) (by omega) (by unfold ol_F; rw [haj, ol_k0_t haj, e1, e2, e3]; rfl)).trans (List.Perm.of_eq (List.append_assoc _ _ _)))) (Nat.zero_le _) (Nat.zero_le _)
    · exfalso; omega

set_option maxHeartbeats 4000000 in
set_option maxRecDepth 100000 in
theorem k_X6_of_f (l : Launch) (D : va_G) (dA : Nat → ClassId) (oo ma g0 g1 g2 : Nat) (g : Nat → Int) (S w r j : Nat) (eS : g 0 = (S : Int)) (hS : 2 ≤ S ∧ S ≤ 6) (ew : g 2 = (w : Int)) (hw : w < 3) (er : g 5 = (r : Int)) (hr : 1 ≤ r ∧ r ≤ 3) (ej : j = ((S - 2) * 3 + w) * 3 + r - 1) (al : Nat → Bool) (oa : Nat → Nat × Nat × Nat) (kf : Nat → Nat → Int32) (haj : al j = false) : hv_Ct l yX6_of (hw_W yX6_of cX6_of 4 (some (.object "HedgeClips$Outlook"))) 3 D dA [.ref oo, .ref g0] ([(oo, .inr (4, [.ref ma])), (ma, .inl (dA 6, 45, .inr (.inr (.inr (.inr (ol_f al oa)))))), (g0, .inr (0, [.int (zI (g 0)), .int (zI (g 1)), .int (zI (g 2)), .int (zI (g 3)), .int (zI (g 4)), .int (zI (g 5)), .ref g1, .ref g2])), (g1, .inr (1, [.int (zI (g 6)), .int (zI (g 8)), .int (zI (g 10))])), (g2, .inr (1, [.int (zI (g 7)), .int (zI (g 9)), .int (zI (g 11))]))] ++ pl_all 45 (ol_F dA al oa kf)) (ol_c al j) (ol_s al j S) (S := Nat → Nat × Nat × Nat) (fun u => some (.ref (u j).1)) (fun u => ∀ i, i ≠ j → u i = oa i) (fun u => [(oo, .inr (4, [.ref ma])), (ma, .inl (dA 6, 45, .inr (.inr (.inr (.inr (ol_f (mo_al al j) u)))))), (g0, .inr (0, [.int (zI (g 0)), .int (zI (g 1)), .int (zI (g 2)), .int (zI (g 3)), .int (zI (g 4)), .int (zI (g 5)), .ref g1, .ref g2])), (g1, .inr (1, [.int (zI (g 6)), .int (zI (g 8)), .int (zI (g 10))])), (g2, .inr (1, [.int (zI (g 7)), .int (zI (g 9)), .int (zI (g 11))]))] ++ (O3 dA (u j).1 (u j).2.1 (u j).2.2 S w r (ol_k0 al kf j) ++ pl_but 45 j (ol_F dA al oa kf))) := by
  have e1 : j / 9 + 2 = S := by omega
  have e2 : j / 3 % 3 = w := by omega
  have e3 : j % 3 + 1 = r := by omega
  refine hv_of (cc := cX6_of) (maxL := 4) (ret := (some (.object "HedgeClips$Outlook"))) (own := RX6) rfl (by decide) rfl (Nat.le_of_ble_eq_true rfl) ?_
  intro p e s m args below meth c C M
  refine hv_lveq (lv' := [(0, .ref oo), (1, .ref g0)]) rfl ?_
  refine hv_aload_n C dX6_of_0 1 rfl ?_
  refine hv_getN C dX6_of_1 (fun w h => hw_c (tw_u_1 w h)) 2 (ci := 0) rfl rfl 0 (by decide) tw_fn_RX6_17 rfl ?_
  refine hv_iconst C dX6_of_4 (v := zI (2)) rfl ?_
  refine hv_isub C dX6_of_5 (zI_sub _ _) ?_
  refine hv_iconst C dX6_of_6 (v := zI (3)) rfl ?_
  refine hv_imul C dX6_of_7 (zI_mul _ _) ?_
  refine hv_aload_n C dX6_of_8 1 rfl ?_
  refine hv_getN C dX6_of_9 (fun w h => hw_c (tw_u_1 w h)) 2 (ci := 0) rfl rfl 2 (by decide) tw_fn_RX6_23 rfl ?_
  refine hv_iadd C dX6_of_12 (zI_add _ _) ?_
  refine hv_iconst C dX6_of_13 (v := zI (3)) rfl ?_
  refine hv_imul C dX6_of_14 (zI_mul _ _) ?_
  refine hv_aload_n C dX6_of_15 1 rfl ?_
  refine hv_getN C dX6_of_16 (fun w h => hw_c (tw_u_1 w h)) 2 (ci := 0) rfl rfl 5 (by decide) tw_fn_RX6_26 rfl ?_
  refine hv_iadd C dX6_of_19 (zI_add _ _) ?_
  refine hv_iconst C dX6_of_20 (v := zI (1)) rfl ?_
  refine hv_isub C dX6_of_21 (z := zI ((j : Int))) ((zI_sub _ _).trans (zI_c (by omega))) ?_
  refine hv_istore_n C dX6_of_22 (lw := [(2, .int (zI ((j : Int)))), (0, .ref oo), (1, .ref g0)]) (by decide) rfl ?_
  refine hv_iload_n C dX6_of_23 0 rfl ?_
  refine hv_if_lt C dX6_of_24 (tgt := 36) (by decide) (zI_lt0 (by omega)) (fun hc24 => ?_) (fun hc24 => ?_)
  · exfalso; omega
  · refine hv_iload_n C dX6_of_27 0 rfl ?_
    refine hv_aload_n C dX6_of_28 1 rfl ?_
    refine hv_get C dX6_of_29 (fun w h => hw_c (tw_u_6 w h)) 0 (ci := 4) rfl rfl 0 (by decide) (hw_c tw_f_RX6_11) rfl ?_
    refine hv_alen C 6 dX6_of_32 1 rfl rfl (v := zI (45)) (rfl) ?_
    refine hv_icmp_lt C dX6_of_33 (tgt := 56) (by decide) (zI_lt (by omega)) (fun hc33 => ?_) (fun hc33 => ?_)
    · refine hv_aload_n C dX6_of_56 1 rfl ?_
      refine hv_get C dX6_of_57 (fun w h => hw_c (tw_u_6 w h)) 0 (ci := 4) rfl rfl 0 (by decide) (hw_c tw_f_RX6_11) rfl ?_
      refine hv_iload_n C dX6_of_60 0 rfl ?_
      refine hv_aald C dX6_of_61 1 6 rfl rfl (j) (zI_ix (by omega)) (by omega) (by omega) ?_
      refine hv_eqst (st' := [.null]) (by unfold ol_f; rw [haj]; rfl) ?_
      refine hv_astoreN_n C dX6_of_62 (lw := [(3, .null), (2, .int (zI ((j : Int)))), (0, .ref oo), (1, .ref g0)]) (by decide) rfl ?_
      refine hv_aloadN_n C dX6_of_63 0 rfl ?_
      refine hv_ifnonnullN C dX6_of_64 (tgt := 94) (by decide) ?_
      refine hv_new C (ci := 3) (fs := [.int (zI (0)), .int (zI (0)), .null, .int (zI (0)), .null]) dX6_of_67 (fun w h => hw_c (tw_u_5 w h)) tyX5 tyX5_ok (hw_c tw_c_RX6_9) (hw_c tw_z_RX5) (hw_c tw_n_RX5) rfl (fun j hj => by rcases (show j = 0 ∨ j = 1 ∨ j = 2 ∨ j = 3 ∨ j = 4 by omega) with rfl | rfl | rfl | rfl | rfl <;> rfl) (by show 0 + 1 ≤ ol_c al j; rw [ol_c_f haj]; decide) (by show 0 + 5 ≤ ol_s al j S; rw [ol_s_f haj]; exact Nat.le_trans (by decide : 0 + 5 ≤ 50) (Nat.le_add_right 50 _)) (fun q0 => ?_)
      refine hv_perm (ws' := [(oo, .inr (4, [.ref ma])), (ma, .inl (dA 6, 45, .inr (.inr (.inr (.inr (ol_f al oa)))))), (g0, .inr (0, [.int (zI (g 0)), .int (zI (g 1)), .int (zI (g 2)), .int (zI (g 3)), .int (zI (g 4)), .int (zI (g 5)), .ref g1, .ref g2])), (g1, .inr (1, [.int (zI (g 6)), .int (zI (g 8)), .int (zI (g 10))])), (g2, .inr (1, [.int (zI (g 7)), .int (zI (g 9)), .int (zI (g 11))])), (q0, .inr (3, [.int (zI (0)), .int (zI (0)), .null, .int (zI (0)), .null]))] ++ pl_all 45 (ol_F dA al oa kf)) (hv_tl _ _ _) ?_
      refine hv_dup C dX6_of_70 rfl ?_
      refine hv_aload_n C dX6_of_71 3 rfl ?_
      refine hv_getN C dX6_of_72 (fun w h => hw_c (tw_u_1 w h)) 2 (ci := 0) rfl rfl 0 (by decide) tw_fn_RX6_17 rfl ?_
      refine hv_aload_n C dX6_of_75 3 rfl ?_
      refine hv_getN C dX6_of_76 (fun w h => hw_c (tw_u_1 w h)) 2 (ci := 0) rfl rfl 2 (by decide) tw_fn_RX6_23 rfl ?_
      refine hv_aload_n C dX6_of_79 3 rfl ?_
      refine hv_getN C dX6_of_80 (fun w h => hw_c (tw_u_1 w h)) 2 (ci := 0) rfl rfl 5 (by decide) tw_fn_RX6_26 rfl ?_
      refine hv_eqst (st' := [.int (zI ((r : Int))), .int (zI ((w : Int))), .int (zI ((S : Int))), .ref q0, .ref q0]) (by rw [eS, ew, er]) ?_
      refine hv_callI (As := [.int (zI ((S : Int))), .int (zI ((w : Int))), .int (zI ((r : Int)))]) (rest := [.ref q0]) (wc := [(q0, .inr (3, [.int (zI (0)), .int (zI (0)), .null, .int (zI (0)), .null]))]) (wr := [(oo, .inr (4, [.ref ma])), (ma, .inl (dA 6, 45, .inr (.inr (.inr (.inr (ol_f al oa)))))), (g0, .inr (0, [.int (zI (g 0)), .int (zI (g 1)), .int (zI (g 2)), .int (zI (g 3)), .int (zI (g 4)), .int (zI (g 5)), .ref g1, .ref g2])), (g1, .inr (1, [.int (zI (g 6)), .int (zI (g 8)), .int (zI (g 10))])), (g2, .inr (1, [.int (zI (g 7)), .int (zI (g 9)), .int (zI (g 11))]))] ++ pl_all 45 (ol_F dA al oa kf)) C (k_X5_init l D dA q0 S w r hS hw hr) (cwI 3 C.1.2.2.2.2 (hw_good tw_k_X5_init) rfl rfl rfl (C.1.2.2.2.2 _ (hw_c tw_n_RX5)) (C.1.2.2.2.2 _ (hw_c tw_m_RX6_29)) (C.1.2.2.2.2 _ (hw_c tw_i_X5_init)) rfl (by decide +kernel) ⟨Nat.le_of_ble_eq_true rfl, Nat.le_of_ble_eq_true rfl⟩) (hv_pm [5] rfl) rfl rfl (Nat.le_of_ble_eq_true rfl) dX6_of_83 ⟨by show 0 + 1 + 2 ≤ ol_c al j; rw [ol_c_f haj]; decide, by show 0 + 5 + (45 + 4 ^ S) ≤ ol_s al j S; rw [ol_s_f haj]; omega⟩ (fun u9 _ => ?_)
      refine hv_eqst (st' := [.ref q0]) rfl ?_
      refine hv_weq (ws' := [(q0, .inr (3, [.int (zI ((S : Int))), .int (zI ((w : Int))), .ref u9.1, .int (zI (((wo_cls S r).length : Int))), .ref u9.2])), (u9.1, .inl (dA 0, 45, .inl (wo_cf S r))), (u9.2, .inl (dA 1, (4 ^ S), .inl (fun _ => 0))), (oo, .inr (4, [.ref ma])), (ma, .inl (dA 6, 45, .inr (.inr (.inr (.inr (ol_f al oa)))))), (g0, .inr (0, [.int (zI (g 0)), .int (zI (g 1)), .int (zI (g 2)), .int (zI (g 3)), .int (zI (g 4)), .int (zI (g 5)), .ref g1, .ref g2])), (g1, .inr (1, [.int (zI (g 6)), .int (zI (g 8)), .int (zI (g 10))])), (g2, .inr (1, [.int (zI (g 7)), .int (zI (g 9)), .int (zI (g 11))]))] ++ pl_all 45 (ol_F dA al oa kf)) (rfl) ?_
      refine hv_srt [3, 3, 3, 3, 3, 0, 0, 0] (ws' := [(oo, .inr (4, [.ref ma])), (ma, .inl (dA 6, 45, .inr (.inr (.inr (.inr (ol_f al oa)))))), (g0, .inr (0, [.int (zI (g 0)), .int (zI (g 1)), .int (zI (g 2)), .int (zI (g 3)), .int (zI (g 4)), .int (zI (g 5)), .ref g1, .ref g2])), (g1, .inr (1, [.int (zI (g 6)), .int (zI (g 8)), .int (zI (g 10))])), (g2, .inr (1, [.int (zI (g 7)), .int (zI (g 9)), .int (zI (g 11))])), (q0, .inr (3, [.int (zI ((S : Int))), .int (zI ((w : Int))), .ref u9.1, .int (zI (((wo_cls S r).length : Int))), .ref u9.2])), (u9.1, .inl (dA 0, 45, .inl (wo_cf S r))), (u9.2, .inl (dA 1, (4 ^ S), .inl (fun _ => 0)))] ++ pl_all 45 (ol_F dA al oa kf)) rfl ?_
      refine hv_astore_n C dX6_of_86 (lw := [(3, .ref q0), (2, .int (zI ((j : Int)))), (0, .ref oo), (1, .ref g0)]) (by decide) rfl ?_
      refine hv_aload_n C dX6_of_87 2 rfl ?_
      refine hv_get C dX6_of_88 (fun w h => hw_c (tw_u_6 w h)) 0 (ci := 4) rfl rfl 0 (by decide) (hw_c tw_f_RX6_11) rfl ?_
      refine hv_iload_n C dX6_of_91 1 rfl ?_
      refine hv_aload_n C dX6_of_92 0 rfl ?_
      refine hv_aast C dX6_of_93 1 6 5 3 rfl rfl rfl rfl (j) (zI_ix (by omega)) (by omega) (by omega) ?_
      refine hv_weq (ws' := [(oo, .inr (4, [.ref ma])), (ma, .inl (dA 6, 45, .inr (.inr (.inr (.inr (va_up (ol_f al oa) j (some q0))))))), (g0, .inr (0, [.int (zI (g 0)), .int (zI (g 1)), .int (zI (g 2)), .int (zI (g 3)), .int (zI (g 4)), .int (zI (g 5)), .ref g1, .ref g2])), (g1, .inr (1, [.int (zI (g 6)), .int (zI (g 8)), .int (zI (g 10))])), (g2, .inr (1, [.int (zI (g 7)), .int (zI (g 9)), .int (zI (g 11))])), (q0, .inr (3, [.int (zI ((S : Int))), .int (zI ((w : Int))), .ref u9.1, .int (zI (((wo_cls S r).length : Int))), .ref u9.2])), (u9.1, .inl (dA 0, 45, .inl (wo_cf S r))), (u9.2, .inl (dA 1, (4 ^ S), .inl (fun _ => 0)))] ++ pl_all 45 (ol_F dA al oa kf)) (rfl) ?_
      refine hv_aload_n C dX6_of_94 0 rfl ?_
      refine hv_weq (ws' := [(oo, .inr (4, [.ref ma])), (ma, .inl (dA 6, 45, .inr (.inr (.inr (.inr (ol_f (mo_al al j) (mo_ga oa j (q0, u9.1, u9.2)))))))), (g0, .inr (0, [.int (zI (g 0)), .int (zI (g 1)), .int (zI (g 2)), .int (zI (g 3)), .int (zI (g 4)), .int (zI (g 5)), .ref g1, .ref g2])), (g1, .inr (1, [.int (zI (g 6)), .int (zI (g 8)), .int (zI (g 10))])), (g2, .inr (1, [.int (zI (g 7)), .int (zI (g 9)), .int (zI (g 11))])), (q0, .inr (3, [.int (zI ((S : Int))), .int (zI ((w : Int))), .ref u9.1, .int (zI (((wo_cls S r).length : Int))), .ref u9.2])), (u9.1, .inl (dA 0, 45, .inl (wo_cf S r))), (u9.2, .inl (dA 1, (4 ^ S), .inl (fun _ => 0)))] ++ pl_all 45 (ol_F dA al oa kf)) (by rw [← ol_f_new al oa j (q0, u9.1, u9.2)]) ?_
      exact hv_aret C M dX6_of_95 rfl (Or.inl ⟨_, rfl⟩) (mo_ga oa j (q0, u9.1, u9.2)) (mo_ga_there oa j _) (by rw [mo_ga_here]) [] (pl_ret ((pl_outL (n := 45) (j := j) (F := ol_F dA al oa kf) ([(oo, .inr (4, [.ref ma])), (ma, .inl (dA 6, 45, .inr (.inr (.inr (.inr (ol_f (mo_al al j) (mo_ga oa j (q0, u9.1, u9.2)))))))), (g0, .inr (0, [.int (zI (g 0)), .int (zI (g 1)), .int (zI (g 2)), .int (zI (g 3)), .int (zI (g 4)), .int (zI (g 5)), .ref g1, .ref g2])), (g1, .inr (1, [.int (zI (g 6)), .int (zI (g 8)), .int (zI (g 10))])), (g2, .inr (1, [.int (zI (g 7)), .int (zI (g 9)), .int (zI (g 11))]))] ++ O3 dA q0 u9.1 u9.2 S w r (fun _ => 0)) [] (by omega) (by unfold ol_F; rw [haj]; rfl)).trans (List.Perm.of_eq (by rw [mo_ga_here, ol_k0_f haj]; rfl)))) (by show 0 + 1 + 2 ≤ ol_c al j; rw [ol_c_f haj]; decide) (by show 0 + 5 + (45 + 4 ^ S) ≤ ol_s al j S; rw [ol_s_f haj]; omega)
    · exfalso; omega

set_option maxHeartbeats 4000000 in
set_option maxRecDepth 100000 in
theorem k_X6_of (l : Launch) (D : va_G) (dA : Nat → ClassId) (oo ma g0 g1 g2 : Nat) (g : Nat → Int) (S w r j : Nat) (eS : g 0 = (S : Int)) (hS : 2 ≤ S ∧ S ≤ 6) (ew : g 2 = (w : Int)) (hw : w < 3) (er : g 5 = (r : Int)) (hr : 1 ≤ r ∧ r ≤ 3) (ej : j = ((S - 2) * 3 + w) * 3 + r - 1) (al : Nat → Bool) (oa : Nat → Nat × Nat × Nat) (kf : Nat → Nat → Int32) : hv_Ct l yX6_of (hw_W yX6_of cX6_of 4 (some (.object "HedgeClips$Outlook"))) 3 D dA [.ref oo, .ref g0] ([(oo, .inr (4, [.ref ma])), (ma, .inl (dA 6, 45, .inr (.inr (.inr (.inr (ol_f al oa)))))), (g0, .inr (0, [.int (zI (g 0)), .int (zI (g 1)), .int (zI (g 2)), .int (zI (g 3)), .int (zI (g 4)), .int (zI (g 5)), .ref g1, .ref g2])), (g1, .inr (1, [.int (zI (g 6)), .int (zI (g 8)), .int (zI (g 10))])), (g2, .inr (1, [.int (zI (g 7)), .int (zI (g 9)), .int (zI (g 11))]))] ++ pl_all 45 (ol_F dA al oa kf)) (ol_c al j) (ol_s al j S) (S := Nat → Nat × Nat × Nat) (fun u => some (.ref (u j).1)) (fun u => ∀ i, i ≠ j → u i = oa i) (fun u => [(oo, .inr (4, [.ref ma])), (ma, .inl (dA 6, 45, .inr (.inr (.inr (.inr (ol_f (mo_al al j) u)))))), (g0, .inr (0, [.int (zI (g 0)), .int (zI (g 1)), .int (zI (g 2)), .int (zI (g 3)), .int (zI (g 4)), .int (zI (g 5)), .ref g1, .ref g2])), (g1, .inr (1, [.int (zI (g 6)), .int (zI (g 8)), .int (zI (g 10))])), (g2, .inr (1, [.int (zI (g 7)), .int (zI (g 9)), .int (zI (g 11))]))] ++ (O3 dA (u j).1 (u j).2.1 (u j).2.2 S w r (ol_k0 al kf j) ++ pl_but 45 j (ol_F dA al oa kf))) := by
  cases haj : al j
  · exact k_X6_of_f l D dA oo ma g0 g1 g2 g S w r j eS hS ew hw er hr ej al oa kf haj
  · exact k_X6_of_t l D dA oo ma g0 g1 g2 g S w r j eS hS ew hw er hr ej al oa kf haj
