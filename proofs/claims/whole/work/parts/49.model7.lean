/-! the model: what would be -/
theorem mz_cnt_t {p : Nat → Bool} {S r i : Nat} (hi : i < (wo_cls S r).length) (h : p (mz_at S r i) = true) : wo_cnt p ((wo_cls S r).take (i + 1)) = wo_cnt p ((wo_cls S r).take i) + 1 := by
  rw [mz_at_g hi] at h
  rw [wo_cnt_step hi, if_pos h]
theorem mz_cnt_f {p : Nat → Bool} {S r i : Nat} (hi : i < (wo_cls S r).length) (h : p (mz_at S r i) = false) : wo_cnt p ((wo_cls S r).take (i + 1)) = wo_cnt p ((wo_cls S r).take i) := by
  rw [mz_at_g hi] at h
  rw [wo_cnt_step hi, h]
  rfl
theorem mz_can_t {h c9 : Nat} (q : ¬ sp_cc h c9 = h) : wo_can h c9 = true := by unfold wo_can; rw [decide_eq_false q]; rfl
theorem mz_can_f {h c9 : Nat} (q : sp_cc h c9 = h) : wo_can h c9 = false := by unfold wo_can; rw [decide_eq_true q]; rfl
theorem mz_cntl {p : Nat → Bool} {S r i : Nat} (hS : S < 7) (hr : r < 4) : wo_cnt p ((wo_cls S r).take i) ≤ 45 := Nat.le_trans wo_cnt_le (wo_len S hS r hr)

set_option maxHeartbeats 4000000 in
set_option maxRecDepth 100000 in
theorem k_X9_about (l : Launch) (D : va_G) (dA : Nat → ClassId) (m9 xt nw tr di ke ik wt : Nat) (rf sz ac ld sp ou : Int) (g : Nat → Int) (hg : WF g) (z : Int) (hz : -2147483648 ≤ z ∧ z < 2147483648) : hv_Ct l yX9_about (hw_W yX9_about cX9_about 4 (some .int)) 4 D dA [.ref m9, .int (zI (z))] ([(m9, .inr (7, [.int (zI (rf)), .ref xt, .int (zI (sz)), .ref nw, .ref tr, .ref di, .int (zI (ac)), .ref ke, .ref ik, .ref wt, .int (zI (ld)), .int (zI (sp)), .int (zI (ou))])), (nw, .inl (dA 0, 12, .inl (fun i => zI (g i))))]) 0 0 (S := Unit) (fun _ => mz_w (xc_abo z) (some (.int (zI (xa_abo g z)))) (some (.int (zI 0)))) (fun _ => True) (fun u => mz_w (xc_abo z) ([(m9, .inr (7, [.int (zI (mz_k1 (xc_abo z))), .ref xt, .int (zI (sz)), .ref nw, .ref tr, .ref di, .int (zI (ac)), .ref ke, .ref ik, .ref wt, .int (zI (ld)), .int (zI (sp)), .int (zI (ou))])), (nw, .inl (dA 0, 12, .inl (fun i => zI (g i))))]) ([(m9, .inr (7, [.int (zI (mz_k1 (xc_abo z))), .ref xt, .int (zI (sz)), .ref nw, .ref tr, .ref di, .int (zI (ac)), .ref ke, .ref ik, .ref wt, .int (zI (ld)), .int (zI (sp)), .int (zI (ou))])), (nw, .inl (dA 0, 12, .inl (fun i => zI (g i))))])) := by
  have hg0 := hg.1
  have hg1 := hg.e1
  have hgx := hg.x
  have hg5 := hg.2.2.2.2.2
  have hgR := hg.R
  have hgS := hg.S
  have hge0 := hg.e0
  have hge5 := hg.e5
  refine hv_of (cc := cX9_about) (maxL := 4) (ret := (some .int)) (own := RX9) rfl (by decide) rfl (Nat.le_of_ble_eq_true rfl) ?_
  intro p e s m args below meth c C M
  refine hv_lveq (lv' := [(0, .ref m9), (1, .int (zI (z)))]) rfl ?_
  refine hv_aload_n C dX9_about_0 0 rfl ?_
  refine hv_iload_n C dX9_about_1 1 rfl ?_
  refine hv_i2l C dX9_about_2 (v := (zL (z))) (by exact zL_i (by omega)) ?_
  refine hv_lconst C dX9_about_3 (v := 0) rfl ?_
  refine hv_ldc2 C dX9_about_4 (hw_c tw_o_RX9_169) ?_
  refine hv_eqst (st' := [.long (zL (8)), .long (zL (0)), .long (zL (z)), .ref m9]) (by rfl) ?_
  refine hv_callS (As := [.long (zL (z)), .long (zL (0)), .long (zL (8))]) (rest := [.ref m9]) (wc := []) (wr := [(m9, .inr (7, [.int (zI (rf)), .ref xt, .int (zI (sz)), .ref nw, .ref tr, .ref di, .int (zI (ac)), .ref ke, .ref ik, .ref wt, .int (zI (ld)), .int (zI (sp)), .int (zI (ou))])), (nw, .inl (dA 0, 12, .inl (fun i => zI (g i))))]) C (k_X9_in l D dA (z) (by omega) (0) (by omega) (8) (by omega)) (va_cwS 3 C.1.2.2.2.2 (hw_S tw_m_RX9_43 tw_t_X9_in tw_n_RX9 tw_k_X9_in) rfl rfl rfl (by decide +kernel) ⟨Nat.le_of_ble_eq_true rfl, Nat.le_of_ble_eq_true rfl⟩) (hv_pm [] rfl) rfl rfl (Nat.le_of_ble_eq_true rfl) dX9_about_7 ⟨Nat.le_of_ble_eq_true rfl, Nat.le_of_ble_eq_true rfl⟩ (fun _ _ => ?_)
  refine hv_eqst (st' := [.int (zI (zB (decide (0 ≤ z ∧ z ≤ 8)))), .ref m9]) rfl ?_
  refine hv_weq (ws' := [(m9, .inr (7, [.int (zI (rf)), .ref xt, .int (zI (sz)), .ref nw, .ref tr, .ref di, .int (zI (ac)), .ref ke, .ref ik, .ref wt, .int (zI (ld)), .int (zI (sp)), .int (zI (ou))])), (nw, .inl (dA 0, 12, .inl (fun i => zI (g i))))]) (rfl) ?_
  refine hv_if_eq C dX9_about_10 (tgt := 17) (by decide) zB_0 (fun hc10 => ?_) (fun hc10 => ?_)
  · refine hv_iconst C dX9_about_17 (v := zI (1)) rfl ?_
    refine hv_callV (As := [.int (zI (1))]) (rest := []) (wc := [(m9, .inr (7, [.int (zI (rf)), .ref xt, .int (zI (sz)), .ref nw, .ref tr, .ref di, .int (zI (ac)), .ref ke, .ref ik, .ref wt, .int (zI (ld)), .int (zI (sp)), .int (zI (ou))]))]) (wr := [(nw, .inl (dA 0, 12, .inl (fun i => zI (g i))))]) C (k_X9_refused l D dA m9 xt nw tr di ke ik wt (rf) (sz) (ac) (ld) (sp) (ou) 1 (by omega)) (cwV 1 C.1.2.2.2.2 (hw_V tw_m_RX9_122 tw_i_X9_refused tw_s_X9_refused tw_n_RX9 tw_k_X9_refused) rfl rfl rfl (by decide +kernel) ⟨Nat.le_of_ble_eq_true rfl, Nat.le_of_ble_eq_true rfl⟩) (hv_pm [0] rfl) rfl 0 7 rfl rfl rfl (Nat.le_of_ble_eq_true rfl) dX9_about_18 ⟨Nat.le_of_ble_eq_true rfl, Nat.le_of_ble_eq_true rfl⟩ (fun _ _ => ?_)
    have e9 : xc_abo z = some hx_IAE := by unfold xc_abo; (repeat' split) <;> first | rfl | (exfalso; omega)
    have e8 : mz_k1 (xc_abo z) = 1 := by rw [e9]; exact mz_k1s
    refine hv_eqst (st' := [.int (zI (zB (decide ((0 : Int) < 1))))]) rfl ?_
    refine hv_weq (ws' := [(m9, .inr (7, [.int (zI (1)), .ref xt, .int (zI (sz)), .ref nw, .ref tr, .ref di, .int (zI (ac)), .ref ke, .ref ik, .ref wt, .int (zI (ld)), .int (zI (sp)), .int (zI (ou))])), (nw, .inl (dA 0, 12, .inl (fun i => zI (g i))))]) (rfl) ?_
    refine hv_if_eq C dX9_about_21 (tgt := 26) (by decide) zB_0 (fun hc21 => ?_) (fun hc21 => ?_)
    · exact absurd hc21 (by omega)
    · refine hv_iconst C dX9_about_24 (v := zI (0)) rfl ?_
      exact hv_iret C M dX9_about_25 rfl rfl () trivial (by rw [e9]; rfl) [] (List.Perm.of_eq (by rw [e8, e9]; rfl)) (Nat.le_refl _) (Nat.le_refl _)
  · refine hv_iconst C dX9_about_13 (v := zI (0)) rfl ?_
    refine hv_goto C dX9_about_14 (tgt := 18) (by decide) ?_
    refine hv_callV (As := [.int (zI (0))]) (rest := []) (wc := [(m9, .inr (7, [.int (zI (rf)), .ref xt, .int (zI (sz)), .ref nw, .ref tr, .ref di, .int (zI (ac)), .ref ke, .ref ik, .ref wt, .int (zI (ld)), .int (zI (sp)), .int (zI (ou))]))]) (wr := [(nw, .inl (dA 0, 12, .inl (fun i => zI (g i))))]) C (k_X9_refused l D dA m9 xt nw tr di ke ik wt (rf) (sz) (ac) (ld) (sp) (ou) 0 (by omega)) (cwV 1 C.1.2.2.2.2 (hw_V tw_m_RX9_122 tw_i_X9_refused tw_s_X9_refused tw_n_RX9 tw_k_X9_refused) rfl rfl rfl (by decide +kernel) ⟨Nat.le_of_ble_eq_true rfl, Nat.le_of_ble_eq_true rfl⟩) (hv_pm [0] rfl) rfl 0 7 rfl rfl rfl (Nat.le_of_ble_eq_true rfl) dX9_about_18 ⟨Nat.le_of_ble_eq_true rfl, Nat.le_of_ble_eq_true rfl⟩ (fun _ _ => ?_)
    have e9 : xc_abo z = none := by unfold xc_abo; (repeat' split) <;> first | rfl | (exfalso; omega)
    have e8 : mz_k1 (xc_abo z) = 0 := by rw [e9]; exact mz_k1n
    refine hv_eqst (st' := [.int (zI (zB (decide ((0 : Int) < 0))))]) rfl ?_
    refine hv_weq (ws' := [(m9, .inr (7, [.int (zI (0)), .ref xt, .int (zI (sz)), .ref nw, .ref tr, .ref di, .int (zI (ac)), .ref ke, .ref ik, .ref wt, .int (zI (ld)), .int (zI (sp)), .int (zI (ou))])), (nw, .inl (dA 0, 12, .inl (fun i => zI (g i))))]) (rfl) ?_
    refine hv_if_eq C dX9_about_21 (tgt := 26) (by decide) zB_0 (fun hc21 => ?_) (fun hc21 => ?_)
    · refine hv_iconst C dX9_about_26 (v := zI (0)) rfl ?_
      refine hv_istore_n C dX9_about_27 (lw := [(2, .int (zI (0))), (0, .ref m9), (1, .int (zI (z)))]) (by decide) rfl ?_
      refine hv_iconst C dX9_about_28 (v := zI (1)) rfl ?_
      refine hv_istore_n C dX9_about_29 (lw := [(3, .int (zI (1))), (2, .int (zI (0))), (0, .ref m9), (1, .int (zI (z)))]) (by decide) rfl ?_
      refine hv_loop (σ := Nat) (fun n8 x => x + n8 = (wo_cls (gS g) (gR g)).length) (fun x => [(m9, .inr (7, [.int (zI (0)), .ref xt, .int (zI (sz)), .ref nw, .ref tr, .ref di, .int (zI (ac)), .ref ke, .ref ik, .ref wt, .int (zI (ld)), .int (zI (sp)), .int (zI (ou))])), (nw, .inl (dA 0, 12, .inl (fun i => zI (g i))))]) (fun x => [(3, .int (zI (((mz_at (gS g) (gR g) x) : Int)))), (2, .int (zI ((wo_cnt (wo_can (gH g)) ((wo_cls (gS g) (gR g)).take x) : Int)))), (0, .ref m9), (1, .int (zI (z)))]) (fun x => []) (fun _ => 0) (fun _ => 0) ((wo_cls (gS g) (gR g)).length) (0) (Nat.zero_add _) (⟨rfl, by rw [mz_at_0 hg.S hg.R]; rfl, rfl, rfl, rfl⟩) (fun n8 x hJ ih => ?_)
      obtain ⟨i, rfl⟩ : ∃ i, i = x := ⟨x, rfl⟩
      have hatl := mz_at_le hg.S hg.R (i := i) (by omega)
      have hcnl := mz_cntl (p := wo_can (gH g)) (S := gS g) (r := gR g) (i := i) (by omega) (by omega)
      refine hv_iload_n C dX9_about_30 0 rfl ?_
      refine hv_sipush C dX9_about_31 (v := zI (1000)) (by decide +kernel) ?_
      refine hv_icmp_ge C dX9_about_34 (tgt := 75) (by decide) (zI_le (by omega)) (fun hc34 => ?_) (fun hc34 => ?_)
      · have hil := mz_at_len hg.S hg.R (i := i) (by omega)
        obtain rfl : i = (wo_cls (gS g) (gR g)).length := (by omega)
        refine hv_iload_n C dX9_about_75 3 rfl ?_
        rcases (show (z = 0) ∨ (z = 1) ∨ (z = 2) ∨ (z = 3) ∨ (z = 4) ∨ (z = 5) ∨ (z = 6) ∨ (z = 7) ∨ (z = 8) by omega) with hq | hq | hq | hq | hq | hq | hq | hq | hq
        · refine hv_topi (y := zI (0)) (by rw [hq]) ?_
          refine hv_tabIn C dX9_about_76 (by decide) (by decide) rfl (tgt := 124) (by decide) ?_
          refine hv_aload_n C dX9_about_124 2 rfl ?_
          refine hv_get C dX9_about_125 (fun w h => hw_c (tw_u_9 w h)) 0 (ci := 7) rfl rfl 3 (by decide) (hw_c tw_f_RX9_13) rfl ?_
          refine hv_iconst C dX9_about_128 (v := zI (0)) rfl ?_
          refine hv_iald C dX9_about_129 1 rfl (0) (rfl) (by omega) (by omega) (v := (zI (g 0))) rfl ?_
          exact hv_iret C M dX9_about_130 rfl rfl () trivial (by rw [e9]; show some (Value.int (zI (xa_abo g z))) = _; unfold xa_abo; rw [if_pos (by omega)]) [] (List.Perm.of_eq (by rw [e8, e9]; rfl)) (Nat.le_refl _) (Nat.le_refl _)
        · refine hv_topi (y := zI (1)) (by rw [hq]) ?_
          refine hv_tabIn C dX9_about_76 (by decide) (by decide) rfl (tgt := 131) (by decide) ?_
          refine hv_aload_n C dX9_about_131 2 rfl ?_
          refine hv_get C dX9_about_132 (fun w h => hw_c (tw_u_9 w h)) 0 (ci := 7) rfl rfl 3 (by decide) (hw_c tw_f_RX9_13) rfl ?_
          refine hv_iconst C dX9_about_135 (v := zI (1)) rfl ?_
          refine hv_iald C dX9_about_136 1 rfl (1) (rfl) (by omega) (by omega) (v := (zI (g 1))) rfl ?_
          refine hv_callS (As := [.int (zI (g 1))]) (rest := []) (wc := []) (wr := [(m9, .inr (7, [.int (zI (0)), .ref xt, .int (zI (sz)), .ref nw, .ref tr, .ref di, .int (zI (ac)), .ref ke, .ref ik, .ref wt, .int (zI (ld)), .int (zI (sp)), .int (zI (ou))])), (nw, .inl (dA 0, 12, .inl (fun i => zI (g i))))]) C (k_X9_count l D dA (gH g) hg.e1 (by omega)) (va_cwS 1 C.1.2.2.2.2 (hw_S tw_m_RX9_101 tw_t_X9_count tw_n_RX9 tw_k_X9_count) rfl rfl rfl (by decide +kernel) ⟨Nat.le_of_ble_eq_true rfl, Nat.le_of_ble_eq_true rfl⟩) (hv_pm [] rfl) rfl rfl (Nat.le_of_ble_eq_true rfl) dX9_about_137 ⟨Nat.le_of_ble_eq_true rfl, Nat.le_of_ble_eq_true rfl⟩ (fun _ _ => ?_)
          refine hv_eqst (st' := [.int (zI ((sp_lv (gH g) : Int)))]) rfl ?_
          refine hv_weq (ws' := [(m9, .inr (7, [.int (zI (0)), .ref xt, .int (zI (sz)), .ref nw, .ref tr, .ref di, .int (zI (ac)), .ref ke, .ref ik, .ref wt, .int (zI (ld)), .int (zI (sp)), .int (zI (ou))])), (nw, .inl (dA 0, 12, .inl (fun i => zI (g i))))]) (rfl) ?_
          exact hv_iret C M dX9_about_140 rfl rfl () trivial (by rw [e9]; show some (Value.int (zI (xa_abo g z))) = _; unfold xa_abo; rw [if_neg (by omega), if_pos (by omega)]) [] (List.Perm.of_eq (by rw [e8, e9]; rfl)) (Nat.le_refl _) (Nat.le_refl _)
        · refine hv_topi (y := zI (2)) (by rw [hq]) ?_
          refine hv_tabIn C dX9_about_76 (by decide) (by decide) rfl (tgt := 141) (by decide) ?_
          refine hv_aload_n C dX9_about_141 2 rfl ?_
          refine hv_get C dX9_about_142 (fun w h => hw_c (tw_u_9 w h)) 0 (ci := 7) rfl rfl 3 (by decide) (hw_c tw_f_RX9_13) rfl ?_
          refine hv_aload_n C dX9_about_145 2 rfl ?_
          refine hv_get C dX9_about_146 (fun w h => hw_c (tw_u_9 w h)) 0 (ci := 7) rfl rfl 3 (by decide) (hw_c tw_f_RX9_13) rfl ?_
          refine hv_iconst C dX9_about_149 (v := zI (1)) rfl ?_
          refine hv_iald C dX9_about_150 1 rfl (1) (rfl) (by omega) (by omega) (v := (zI (g 1))) rfl ?_
          refine hv_callS (As := [.ref nw, .int (zI (g 1))]) (rest := []) (wc := [(nw, .inl (dA 0, 12, .inl (fun i => zI (g i))))]) (wr := [(m9, .inr (7, [.int (zI (0)), .ref xt, .int (zI (sz)), .ref nw, .ref tr, .ref di, .int (zI (ac)), .ref ke, .ref ik, .ref wt, .int (zI (ld)), .int (zI (sp)), .int (zI (ou))]))]) C (k_X9_bare l D dA nw g (gS g) hg.e0 hg.S.2 (gH g) hg.e1 hgx) (va_cwS 2 C.1.2.2.2.2 (hw_S tw_m_RX9_69 tw_t_X9_bare tw_n_RX9 tw_k_X9_bare) rfl rfl rfl (by decide +kernel) ⟨Nat.le_of_ble_eq_true rfl, Nat.le_of_ble_eq_true rfl⟩) (hv_pm [1] rfl) rfl rfl (Nat.le_of_ble_eq_true rfl) dX9_about_151 ⟨Nat.le_of_ble_eq_true rfl, Nat.le_of_ble_eq_true rfl⟩ (fun _ _ => ?_)
          refine hv_eqst (st' := [.int (zI ((mz_b (gH g) (gS g) : Int)))]) rfl ?_
          refine hv_weq (ws' := [(nw, .inl (dA 0, 12, .inl (fun i => zI (g i)))), (m9, .inr (7, [.int (zI (0)), .ref xt, .int (zI (sz)), .ref nw, .ref tr, .ref di, .int (zI (ac)), .ref ke, .ref ik, .ref wt, .int (zI (ld)), .int (zI (sp)), .int (zI (ou))]))]) (rfl) ?_
          refine hv_srt [1, 0] (ws' := [(m9, .inr (7, [.int (zI (0)), .ref xt, .int (zI (sz)), .ref nw, .ref tr, .ref di, .int (zI (ac)), .ref ke, .ref ik, .ref wt, .int (zI (ld)), .int (zI (sp)), .int (zI (ou))])), (nw, .inl (dA 0, 12, .inl (fun i => zI (g i))))]) rfl ?_
          exact hv_iret C M dX9_about_154 rfl rfl () trivial (by rw [e9]; show some (Value.int (zI (xa_abo g z))) = _; unfold xa_abo; rw [if_neg (by omega), if_neg (by omega), if_pos (by omega)]; exact hv_rv (by have hbl := mz_bl hg.S hg.H; omega)) [] (List.Perm.of_eq (by rw [e8, e9]; rfl)) (Nat.le_refl _) (Nat.le_refl _)
        · refine hv_topi (y := zI (3)) (by rw [hq]) ?_
          refine hv_tabIn C dX9_about_76 (by decide) (by decide) rfl (tgt := 155) (by decide) ?_
          refine hv_aload_n C dX9_about_155 2 rfl ?_
          refine hv_get C dX9_about_156 (fun w h => hw_c (tw_u_9 w h)) 0 (ci := 7) rfl rfl 3 (by decide) (hw_c tw_f_RX9_13) rfl ?_
          refine hv_iload_n C dX9_about_159 3 rfl ?_
          refine hv_iconst C dX9_about_160 (v := zI (1)) rfl ?_
          refine hv_isub C dX9_about_161 (zI_sub _ _) ?_
          refine hv_iald C dX9_about_162 1 rfl (2) (zI_ix (by omega)) (by omega) (by omega) (v := (zI (g 2))) rfl ?_
          exact hv_iret C M dX9_about_163 rfl rfl () trivial (by rw [e9]; show some (Value.int (zI (xa_abo g z))) = _; unfold xa_abo; rw [if_neg (by omega), if_neg (by omega), if_neg (by omega), if_pos (by omega)]) [] (List.Perm.of_eq (by rw [e8, e9]; rfl)) (Nat.le_refl _) (Nat.le_refl _)
        · refine hv_topi (y := zI (4)) (by rw [hq]) ?_
          refine hv_tabIn C dX9_about_76 (by decide) (by decide) rfl (tgt := 155) (by decide) ?_
          refine hv_aload_n C dX9_about_155 2 rfl ?_
          refine hv_get C dX9_about_156 (fun w h => hw_c (tw_u_9 w h)) 0 (ci := 7) rfl rfl 3 (by decide) (hw_c tw_f_RX9_13) rfl ?_
          refine hv_iload_n C dX9_about_159 3 rfl ?_
          refine hv_iconst C dX9_about_160 (v := zI (1)) rfl ?_
          refine hv_isub C dX9_about_161 (zI_sub _ _) ?_
          refine hv_iald C dX9_about_162 1 rfl (3) (zI_ix (by omega)) (by omega) (by omega) (v := (zI (g 3))) rfl ?_
          exact hv_iret C M dX9_about_163 rfl rfl () trivial (by rw [e9]; show some (Value.int (zI (xa_abo g z))) = _; unfold xa_abo; rw [if_neg (by omega), if_neg (by omega), if_neg (by omega), if_neg (by omega), if_pos (by omega)]) [] (List.Perm.of_eq (by rw [e8, e9]; rfl)) (Nat.le_refl _) (Nat.le_refl _)
        · refine hv_topi (y := zI (5)) (by rw [hq]) ?_
          refine hv_tabIn C dX9_about_76 (by decide) (by decide) rfl (tgt := 164) (by decide) ?_
          refine hv_aload_n C dX9_about_164 2 rfl ?_
          refine hv_get C dX9_about_165 (fun w h => hw_c (tw_u_9 w h)) 0 (ci := 7) rfl rfl 3 (by decide) (hw_c tw_f_RX9_13) rfl ?_
          refine hv_bipush C dX9_about_168 (v := zI (8)) (by decide +kernel) ?_
          refine hv_iald C dX9_about_170 1 rfl (8) (rfl) (by omega) (by omega) (v := (zI (g 8))) rfl ?_
          refine hv_aload_n C dX9_about_171 2 rfl ?_
          refine hv_get C dX9_about_172 (fun w h => hw_c (tw_u_9 w h)) 0 (ci := 7) rfl rfl 3 (by decide) (hw_c tw_f_RX9_13) rfl ?_
          refine hv_bipush C dX9_about_175 (v := zI (9)) (by decide +kernel) ?_
          refine hv_iald C dX9_about_177 1 rfl (9) (rfl) (by omega) (by omega) (v := (zI (g 9))) rfl ?_
          refine hv_iadd C dX9_about_178 (zI_add _ _) ?_
          exact hv_iret C M dX9_about_179 rfl rfl () trivial (by rw [e9]; show some (Value.int (zI (xa_abo g z))) = _; unfold xa_abo; rw [if_neg (by omega), if_neg (by omega), if_neg (by omega), if_neg (by omega), if_neg (by omega), if_pos (by omega)]) [] (List.Perm.of_eq (by rw [e8, e9]; rfl)) (Nat.le_refl _) (Nat.le_refl _)
        · refine hv_topi (y := zI (6)) (by rw [hq]) ?_
          refine hv_tabIn C dX9_about_76 (by decide) (by decide) rfl (tgt := 180) (by decide) ?_
          refine hv_aload_n C dX9_about_180 2 rfl ?_
          refine hv_get C dX9_about_181 (fun w h => hw_c (tw_u_9 w h)) 0 (ci := 7) rfl rfl 3 (by decide) (hw_c tw_f_RX9_13) rfl ?_
          refine hv_iconst C dX9_about_184 (v := zI (1)) rfl ?_
          refine hv_iald C dX9_about_185 1 rfl (1) (rfl) (by omega) (by omega) (v := (zI (g 1))) rfl ?_
          refine hv_if_ne C dX9_about_186 (tgt := 193) (by decide) (zI_ne0 (by omega)) (fun hc186 => ?_) (fun hc186 => ?_)
          · refine hv_iconst C dX9_about_193 (v := zI (0)) rfl ?_
            exact hv_iret C M dX9_about_194 rfl rfl () trivial (by rw [e9]; show some (Value.int (zI (xa_abo g z))) = _; unfold xa_abo; rw [if_neg (by omega), if_neg (by omega), if_neg (by omega), if_neg (by omega), if_neg (by omega), if_neg (by omega), if_pos (by omega)]; exact hv_rv (zB_F (by omega))) [] (List.Perm.of_eq (by rw [e8, e9]; rfl)) (Nat.le_refl _) (Nat.le_refl _)
          · refine hv_iconst C dX9_about_189 (v := zI (1)) rfl ?_
            refine hv_goto C dX9_about_190 (tgt := 194) (by decide) ?_
            exact hv_iret C M dX9_about_194 rfl rfl () trivial (by rw [e9]; show some (Value.int (zI (xa_abo g z))) = _; unfold xa_abo; rw [if_neg (by omega), if_neg (by omega), if_neg (by omega), if_neg (by omega), if_neg (by omega), if_neg (by omega), if_pos (by omega)]; exact hv_rv (zB_T (by omega))) [] (List.Perm.of_eq (by rw [e8, e9]; rfl)) (Nat.le_refl _) (Nat.le_refl _)
        · refine hv_topi (y := zI (7)) (by rw [hq]) ?_
          refine hv_tabIn C dX9_about_76 (by decide) (by decide) rfl (tgt := 195) (by decide) ?_
          refine hv_aload_n C dX9_about_195 2 rfl ?_
          refine hv_get C dX9_about_196 (fun w h => hw_c (tw_u_9 w h)) 0 (ci := 7) rfl rfl 3 (by decide) (hw_c tw_f_RX9_13) rfl ?_
          refine hv_iconst C dX9_about_199 (v := zI (1)) rfl ?_
          refine hv_iald C dX9_about_200 1 rfl (1) (rfl) (by omega) (by omega) (v := (zI (g 1))) rfl ?_
          exact hv_iret C M dX9_about_201 rfl rfl () trivial (by rw [e9]; show some (Value.int (zI (xa_abo g z))) = _; unfold xa_abo; rw [if_neg (by omega), if_neg (by omega), if_neg (by omega), if_neg (by omega), if_neg (by omega), if_neg (by omega), if_neg (by omega), if_pos (by omega)]) [] (List.Perm.of_eq (by rw [e8, e9]; rfl)) (Nat.le_refl _) (Nat.le_refl _)
        · refine hv_tabOut C dX9_about_76 (by rw [zI_toInt (by omega)]; omega) (tgt := 202) (by decide) ?_
          refine hv_iload_n C dX9_about_202 1 rfl ?_
          exact hv_iret C M dX9_about_203 rfl rfl () trivial (by rw [e9]; show some (Value.int (zI (xa_abo g z))) = _; unfold xa_abo; rw [if_neg (by omega), if_neg (by omega), if_neg (by omega), if_neg (by omega), if_neg (by omega), if_neg (by omega), if_neg (by omega), if_neg (by omega)]; rw [List.take_length]) [] (List.Perm.of_eq (by rw [e8, e9]; rfl)) (Nat.le_refl _) (Nat.le_refl _)
      · have hlt9 : i < (wo_cls (gS g) (gR g)).length := Nat.lt_of_not_le (fun q => by rw [mz_at_out q] at hc34; omega)
        have hat := (mz_at_n hg.S hg.R hlt9).2
        have hnx := (mz_at_n hg.S hg.R hlt9).1
        have hmem := mz_at_in hlt9
        refine hv_iload_n C dX9_about_37 1 rfl ?_
        refine hv_aload_n C dX9_about_38 2 rfl ?_
        refine hv_aload_n C dX9_about_39 2 rfl ?_
        refine hv_get C dX9_about_40 (fun w h => hw_c (tw_u_9 w h)) 0 (ci := 7) rfl rfl 3 (by decide) (hw_c tw_f_RX9_13) rfl ?_
        refine hv_aload_n C dX9_about_43 2 rfl ?_
        refine hv_get C dX9_about_44 (fun w h => hw_c (tw_u_9 w h)) 0 (ci := 7) rfl rfl 3 (by decide) (hw_c tw_f_RX9_13) rfl ?_
        refine hv_iconst C dX9_about_47 (v := zI (1)) rfl ?_
        refine hv_iald C dX9_about_48 1 rfl (1) (rfl) (by omega) (by omega) (v := (zI (g 1))) rfl ?_
        refine hv_iload_n C dX9_about_49 0 rfl ?_
        refine hv_callV (As := [.ref nw, .int (zI (g 1)), .int (zI (((mz_at (gS g) (gR g) i) : Int)))]) (rest := [.int (zI ((wo_cnt (wo_can (gH g)) ((wo_cls (gS g) (gR g)).take i) : Int)))]) (wc := [(m9, .inr (7, [.int (zI (0)), .ref xt, .int (zI (sz)), .ref nw, .ref tr, .ref di, .int (zI (ac)), .ref ke, .ref ik, .ref wt, .int (zI (ld)), .int (zI (sp)), .int (zI (ou))])), (nw, .inl (dA 0, 12, .inl (fun i => zI (g i))))]) (wr := []) C (k_X9_may l D dA xt nw tr di ke ik wt 0 sz ac ld sp ou m9 nw g hg (gH g) hg.e1 hg.H (mz_at (gS g) (gR g) i) rfl hmem) (cwV 3 C.1.2.2.2.2 (hw_V tw_m_RX9_88 tw_i_X9_may tw_s_X9_may tw_n_RX9 tw_k_X9_may) rfl rfl rfl (by decide +kernel) ⟨Nat.le_of_ble_eq_true rfl, Nat.le_of_ble_eq_true rfl⟩) (hv_pm [0, 0] rfl) rfl 0 7 rfl rfl rfl (Nat.le_of_ble_eq_true rfl) dX9_about_50 ⟨Nat.le_of_ble_eq_true rfl, Nat.le_of_ble_eq_true rfl⟩ (fun _ _ => ?_)
        refine hv_eqst (st' := [.int (zI (zB (decide (¬ sp_cc (gH g) (mz_at (gS g) (gR g) i) = gH g)))), .int (zI ((wo_cnt (wo_can (gH g)) ((wo_cls (gS g) (gR g)).take i) : Int)))]) rfl ?_
        refine hv_weq (ws' := [(m9, .inr (7, [.int (zI (0)), .ref xt, .int (zI (sz)), .ref nw, .ref tr, .ref di, .int (zI (ac)), .ref ke, .ref ik, .ref wt, .int (zI (ld)), .int (zI (sp)), .int (zI (ou))])), (nw, .inl (dA 0, 12, .inl (fun i => zI (g i))))]) (rfl) ?_
        refine hv_if_eq C dX9_about_53 (tgt := 60) (by decide) zB_0 (fun hc53 => ?_) (fun hc53 => ?_)
        · refine hv_iconst C dX9_about_60 (v := zI (0)) rfl ?_
          refine hv_iadd C dX9_about_61 (z := zI ((wo_cnt (wo_can (gH g)) ((wo_cls (gS g) (gR g)).take (i + 1)) : Int))) ((zI_add _ _).trans (zI_c (by rw [mz_cnt_f hlt9 (mz_can_f (Decidable.not_not.mp hc53))]; omega))) ?_
          refine hv_istore_n C dX9_about_62 (lw := [(2, .int (zI ((wo_cnt (wo_can (gH g)) ((wo_cls (gS g) (gR g)).take (i + 1)) : Int)))), (3, .int (zI (((mz_at (gS g) (gR g) i) : Int)))), (0, .ref m9), (1, .int (zI (z)))]) (by decide) rfl ?_
          refine hv_aload_n C dX9_about_63 2 rfl ?_
          refine hv_get C dX9_about_64 (fun w h => hw_c (tw_u_9 w h)) 0 (ci := 7) rfl rfl 3 (by decide) (hw_c tw_f_RX9_13) rfl ?_
          refine hv_iload_n C dX9_about_67 1 rfl ?_
          refine hv_callS (As := [.ref nw, .int (zI (((mz_at (gS g) (gR g) i) : Int)))]) (rest := []) (wc := [(nw, .inl (dA 0, 12, .inl (fun i => zI (g i))))]) (wr := [(m9, .inr (7, [.int (zI (0)), .ref xt, .int (zI (sz)), .ref nw, .ref tr, .ref di, .int (zI (ac)), .ref ke, .ref ik, .ref wt, .int (zI (ld)), .int (zI (sp)), .int (zI (ou))]))]) C (k_X9_next l D dA nw g hg (mz_at (gS g) (gR g) i) rfl hat) (va_cwS 2 C.1.2.2.2.2 (hw_S tw_m_RX9_95 tw_t_X9_next tw_n_RX9 tw_k_X9_next) rfl rfl rfl (by decide +kernel) ⟨Nat.le_of_ble_eq_true rfl, Nat.le_of_ble_eq_true rfl⟩) (hv_pm [1] rfl) rfl rfl (Nat.le_of_ble_eq_true rfl) dX9_about_68 ⟨Nat.le_of_ble_eq_true rfl, Nat.le_of_ble_eq_true rfl⟩ (fun _ _ => ?_)
          refine hv_eqst (st' := [.int (zI ((mz_n (gS g) (gR g) (mz_at (gS g) (gR g) i) : Int)))]) rfl ?_
          refine hv_weq (ws' := [(nw, .inl (dA 0, 12, .inl (fun i => zI (g i)))), (m9, .inr (7, [.int (zI (0)), .ref xt, .int (zI (sz)), .ref nw, .ref tr, .ref di, .int (zI (ac)), .ref ke, .ref ik, .ref wt, .int (zI (ld)), .int (zI (sp)), .int (zI (ou))]))]) (rfl) ?_
          refine hv_srt [1, 0] (ws' := [(m9, .inr (7, [.int (zI (0)), .ref xt, .int (zI (sz)), .ref nw, .ref tr, .ref di, .int (zI (ac)), .ref ke, .ref ik, .ref wt, .int (zI (ld)), .int (zI (sp)), .int (zI (ou))])), (nw, .inl (dA 0, 12, .inl (fun i => zI (g i))))]) rfl ?_
          refine hv_topi (y := zI (((mz_at (gS g) (gR g) (i + 1)) : Nat) : Int)) (by rw [hnx]) ?_
          refine hv_istore_n C dX9_about_71 (lw := [(3, .int (zI (((mz_at (gS g) (gR g) (i + 1)) : Int)))), (2, .int (zI ((wo_cnt (wo_can (gH g)) ((wo_cls (gS g) (gR g)).take (i + 1)) : Int)))), (0, .ref m9), (1, .int (zI (z)))]) (by decide) rfl ?_
          refine hv_goto C dX9_about_72 (tgt := 30) (by decide) ?_
          refine hv_lsub [0, 1, 2, 3] (lv' := [(3, .int (zI (((mz_at (gS g) (gR g) (i + 1)) : Int)))), (2, .int (zI ((wo_cnt (wo_can (gH g)) ((wo_cls (gS g) (gR g)).take (i + 1)) : Int)))), (0, .ref m9), (1, .int (zI (z)))]) rfl ?_
          obtain ⟨k8, rfl⟩ : ∃ k8, n8 = k8 + 1 := ⟨n8 - 1, by omega⟩
          exact ih k8 (i + 1) (by omega) (by omega)
        · refine hv_iconst C dX9_about_56 (v := zI (1)) rfl ?_
          refine hv_goto C dX9_about_57 (tgt := 61) (by decide) ?_
          refine hv_iadd C dX9_about_61 (z := zI ((wo_cnt (wo_can (gH g)) ((wo_cls (gS g) (gR g)).take (i + 1)) : Int))) ((zI_add _ _).trans (zI_c (by rw [mz_cnt_t hlt9 (mz_can_t (Decidable.not_not.mp hc53))]; omega))) ?_
          refine hv_istore_n C dX9_about_62 (lw := [(2, .int (zI ((wo_cnt (wo_can (gH g)) ((wo_cls (gS g) (gR g)).take (i + 1)) : Int)))), (3, .int (zI (((mz_at (gS g) (gR g) i) : Int)))), (0, .ref m9), (1, .int (zI (z)))]) (by decide) rfl ?_
          refine hv_aload_n C dX9_about_63 2 rfl ?_
          refine hv_get C dX9_about_64 (fun w h => hw_c (tw_u_9 w h)) 0 (ci := 7) rfl rfl 3 (by decide) (hw_c tw_f_RX9_13) rfl ?_
          refine hv_iload_n C dX9_about_67 1 rfl ?_
          refine hv_callS (As := [.ref nw, .int (zI (((mz_at (gS g) (gR g) i) : Int)))]) (rest := []) (wc := [(nw, .inl (dA 0, 12, .inl (fun i => zI (g i))))]) (wr := [(m9, .inr (7, [.int (zI (0)), .ref xt, .int (zI (sz)), .ref nw, .ref tr, .ref di, .int (zI (ac)), .ref ke, .ref ik, .ref wt, .int (zI (ld)), .int (zI (sp)), .int (zI (ou))]))]) C (k_X9_next l D dA nw g hg (mz_at (gS g) (gR g) i) rfl hat) (va_cwS 2 C.1.2.2.2.2 (hw_S tw_m_RX9_95 tw_t_X9_next tw_n_RX9 tw_k_X9_next) rfl rfl rfl (by decide +kernel) ⟨Nat.le_of_ble_eq_true rfl, Nat.le_of_ble_eq_true rfl⟩) (hv_pm [1] rfl) rfl rfl (Nat.le_of_ble_eq_true rfl) dX9_about_68 ⟨Nat.le_of_ble_eq_true rfl, Nat.le_of_ble_eq_true rfl⟩ (fun _ _ => ?_)
          refine hv_eqst (st' := [.int (zI ((mz_n (gS g) (gR g) (mz_at (gS g) (gR g) i) : Int)))]) rfl ?_
          refine hv_weq (ws' := [(nw, .inl (dA 0, 12, .inl (fun i => zI (g i)))), (m9, .inr (7, [.int (zI (0)), .ref xt, .int (zI (sz)), .ref nw, .ref tr, .ref di, .int (zI (ac)), .ref ke, .ref ik, .ref wt, .int (zI (ld)), .int (zI (sp)), .int (zI (ou))]))]) (rfl) ?_
          refine hv_srt [1, 0] (ws' := [(m9, .inr (7, [.int (zI (0)), .ref xt, .int (zI (sz)), .ref nw, .ref tr, .ref di, .int (zI (ac)), .ref ke, .ref ik, .ref wt, .int (zI (ld)), .int (zI (sp)), .int (zI (ou))])), (nw, .inl (dA 0, 12, .inl (fun i => zI (g i))))]) rfl ?_
          refine hv_topi (y := zI (((mz_at (gS g) (gR g) (i + 1)) : Nat) : Int)) (by rw [hnx]) ?_
          refine hv_istore_n C dX9_about_71 (lw := [(3, .int (zI (((mz_at (gS g) (gR g) (i + 1)) : Int)))), (2, .int (zI ((wo_cnt (wo_can (gH g)) ((wo_cls (gS g) (gR g)).take (i + 1)) : Int)))), (0, .ref m9), (1, .int (zI (z)))]) (by decide) rfl ?_
          refine hv_goto C dX9_about_72 (tgt := 30) (by decide) ?_
          refine hv_lsub [0, 1, 2, 3] (lv' := [(3, .int (zI (((mz_at (gS g) (gR g) (i + 1)) : Int)))), (2, .int (zI ((wo_cnt (wo_can (gH g)) ((wo_cls (gS g) (gR g)).take (i + 1)) : Int)))), (0, .ref m9), (1, .int (zI (z)))]) rfl ?_
          obtain ⟨k8, rfl⟩ : ∃ k8, n8 = k8 + 1 := ⟨n8 - 1, by omega⟩
          exact ih k8 (i + 1) (by omega) (by omega)
    · exact absurd hc21 (by omega)

set_option maxHeartbeats 4000000 in
set_option maxRecDepth 100000 in
theorem k_X9_worth (l : Launch) (D : va_G) (dA : Nat → ClassId) (m9 xt nw tr di ke ik wt : Nat) (rf sz ac ld sp ou : Int) (g : Nat → Int) (hg : WF g) (wv : Nat → Int) (hl : mz_LW ld wv) : hv_Ct l yX9_worth (hw_W yX9_worth cX9_worth 1 (some .int)) 9 D dA [.ref m9] ([(m9, .inr (7, [.int (zI (rf)), .ref xt, .int (zI (sz)), .ref nw, .ref tr, .ref di, .int (zI (ac)), .ref ke, .ref ik, .ref wt, .int (zI (ld)), .int (zI (sp)), .int (zI (ou))])), (nw, .inl (dA 0, 12, .inl (fun i => zI (g i)))), (wt, .inl (dA 0, 4096, .inl (fun i => zI (wv i))))]) 0 0 (S := Nat → Int) (fun _ => some (.int (zI (100 + ox_w g)))) (fun u => mz_ws g u) (fun u => [(m9, .inr (7, [.int (zI (0)), .ref xt, .int (zI (sz)), .ref nw, .ref tr, .ref di, .int (zI (ac)), .ref ke, .ref ik, .ref wt, .int (zI (mz_key g)), .int (zI (sp)), .int (zI (ou))])), (nw, .inl (dA 0, 12, .inl (fun i => zI (g i)))), (wt, .inl (dA 0, 4096, .inl (fun i => zI (u i))))]) := by
  refine hv_of (cc := cX9_worth) (maxL := 1) (ret := (some .int)) (own := RX9) rfl (by decide) rfl (Nat.le_of_ble_eq_true rfl) ?_
  intro p e s m args below meth c C M
  refine hv_lveq (lv' := [(0, .ref m9)]) rfl ?_
  refine hv_aload_n C dX9_worth_0 0 rfl ?_
  refine hv_iconst C dX9_worth_1 (v := zI (0)) rfl ?_
  refine hv_put C dX9_worth_2 (fun w h => hw_c (tw_u_9 w h)) tyX9 tyX9_ok nmX9 0 (ci := 7) (ty := .int) rfl rfl 0 (by decide) (hw_c tw_f_RX9_40) rfl rfl rfl rfl (Nat.le_of_ble_eq_true rfl) ?_
  refine hv_weq (ws' := [(m9, .inr (7, [.int (zI (0)), .ref xt, .int (zI (sz)), .ref nw, .ref tr, .ref di, .int (zI (ac)), .ref ke, .ref ik, .ref wt, .int (zI (ld)), .int (zI (sp)), .int (zI (ou))])), (nw, .inl (dA 0, 12, .inl (fun i => zI (g i)))), (wt, .inl (dA 0, 4096, .inl (fun i => zI (wv i))))]) rfl ?_
  refine hv_bipush C dX9_worth_5 (v := zI (100)) (by decide +kernel) ?_
  refine hv_aload_n C dX9_worth_7 0 rfl ?_
  refine hv_aload_n C dX9_worth_8 0 rfl ?_
  refine hv_get C dX9_worth_9 (fun w h => hw_c (tw_u_9 w h)) 0 (ci := 7) rfl rfl 3 (by decide) (hw_c tw_f_RX9_13) rfl ?_
  refine hv_callV (As := [.ref nw]) (rest := [.int (zI (100))]) (wc := [(m9, .inr (7, [.int (zI (0)), .ref xt, .int (zI (sz)), .ref nw, .ref tr, .ref di, .int (zI (ac)), .ref ke, .ref ik, .ref wt, .int (zI (ld)), .int (zI (sp)), .int (zI (ou))])), (nw, .inl (dA 0, 12, .inl (fun i => zI (g i)))), (wt, .inl (dA 0, 4096, .inl (fun i => zI (wv i))))]) (wr := []) C (k_X9_worthOf l D dA m9 xt nw tr di ke ik wt 0 sz ac ld sp ou nw g hg wv hl) (cwV 1 C.1.2.2.2.2 (hw_V tw_m_RX9_114 tw_i_X9_worthOf tw_s_X9_worthOf tw_n_RX9 tw_k_X9_worthOf) rfl rfl rfl (by decide +kernel) ⟨Nat.le_of_ble_eq_true rfl, Nat.le_of_ble_eq_true rfl⟩) (hv_pm [0, 0, 0] rfl) rfl 0 7 rfl rfl rfl (Nat.le_of_ble_eq_true rfl) dX9_worth_12 ⟨Nat.le_of_ble_eq_true rfl, Nat.le_of_ble_eq_true rfl⟩ (fun u7 hu7 => ?_)
  refine hv_eqst (st' := [.int (zI (ox_w g)), .int (zI (100))]) rfl ?_
  refine hv_weq (ws' := [(m9, .inr (7, [.int (zI (0)), .ref xt, .int (zI (sz)), .ref nw, .ref tr, .ref di, .int (zI (ac)), .ref ke, .ref ik, .ref wt, .int (zI (mz_key g)), .int (zI (sp)), .int (zI (ou))])), (nw, .inl (dA 0, 12, .inl (fun i => zI (g i)))), (wt, .inl (dA 0, 4096, .inl (fun i => zI (u7 i))))]) (rfl) ?_
  refine hv_iadd C dX9_worth_15 (zI_add _ _) ?_
  exact hv_iret C M dX9_worth_16 rfl rfl u7 hu7 rfl [] (List.Perm.of_eq (by first | rfl | exact (List.append_nil _).symm)) (Nat.le_refl _) (Nat.le_refl _)

set_option maxHeartbeats 4000000 in
set_option maxRecDepth 100000 in
theorem k_X9_bestClip (l : Launch) (D : va_G) (dA : Nat → ClassId) (m9 xt nw tr di ke ik wt : Nat) (rf sz ac ld sp ou : Int) (g : Nat → Int) (hg : WF g) (wv : Nat → Int) (hl : mz_LW ld wv) : hv_Ct l yX9_bestClip (hw_W yX9_bestClip cX9_bestClip 1 (some .int)) 9 D dA [.ref m9] ([(m9, .inr (7, [.int (zI (rf)), .ref xt, .int (zI (sz)), .ref nw, .ref tr, .ref di, .int (zI (ac)), .ref ke, .ref ik, .ref wt, .int (zI (ld)), .int (zI (sp)), .int (zI (ou))])), (nw, .inl (dA 0, 12, .inl (fun i => zI (g i)))), (wt, .inl (dA 0, 4096, .inl (fun i => zI (wv i))))]) 0 0 (S := Nat → Int) (fun _ => some (.int (zI (ox_best g)))) (fun u => mz_ws g u) (fun u => [(m9, .inr (7, [.int (zI (0)), .ref xt, .int (zI (sz)), .ref nw, .ref tr, .ref di, .int (zI (ac)), .ref ke, .ref ik, .ref wt, .int (zI (mz_key g)), .int (zI (sp)), .int (zI (ou))])), (nw, .inl (dA 0, 12, .inl (fun i => zI (g i)))), (wt, .inl (dA 0, 4096, .inl (fun i => zI (u i))))]) := by
  refine hv_of (cc := cX9_bestClip) (maxL := 1) (ret := (some .int)) (own := RX9) rfl (by decide) rfl (Nat.le_of_ble_eq_true rfl) ?_
  intro p e s m args below meth c C M
  refine hv_lveq (lv' := [(0, .ref m9)]) rfl ?_
  refine hv_aload_n C dX9_bestClip_0 0 rfl ?_
  refine hv_iconst C dX9_bestClip_1 (v := zI (0)) rfl ?_
  refine hv_put C dX9_bestClip_2 (fun w h => hw_c (tw_u_9 w h)) tyX9 tyX9_ok nmX9 0 (ci := 7) (ty := .int) rfl rfl 0 (by decide) (hw_c tw_f_RX9_40) rfl rfl rfl rfl (Nat.le_of_ble_eq_true rfl) ?_
  refine hv_weq (ws' := [(m9, .inr (7, [.int (zI (0)), .ref xt, .int (zI (sz)), .ref nw, .ref tr, .ref di, .int (zI (ac)), .ref ke, .ref ik, .ref wt, .int (zI (ld)), .int (zI (sp)), .int (zI (ou))])), (nw, .inl (dA 0, 12, .inl (fun i => zI (g i)))), (wt, .inl (dA 0, 4096, .inl (fun i => zI (wv i))))]) rfl ?_
  refine hv_aload_n C dX9_bestClip_5 0 rfl ?_
  refine hv_aload_n C dX9_bestClip_6 0 rfl ?_
  refine hv_get C dX9_bestClip_7 (fun w h => hw_c (tw_u_9 w h)) 0 (ci := 7) rfl rfl 3 (by decide) (hw_c tw_f_RX9_13) rfl ?_
  refine hv_callV (As := [.ref nw]) (rest := []) (wc := [(m9, .inr (7, [.int (zI (0)), .ref xt, .int (zI (sz)), .ref nw, .ref tr, .ref di, .int (zI (ac)), .ref ke, .ref ik, .ref wt, .int (zI (ld)), .int (zI (sp)), .int (zI (ou))])), (nw, .inl (dA 0, 12, .inl (fun i => zI (g i)))), (wt, .inl (dA 0, 4096, .inl (fun i => zI (wv i))))]) (wr := []) C (k_X9_best l D dA m9 xt nw tr di ke ik wt 0 sz ac ld sp ou nw g hg wv hl) (cwV 1 C.1.2.2.2.2 (hw_V tw_m_RX9_104 tw_i_X9_best tw_s_X9_best tw_n_RX9 tw_k_X9_best) rfl rfl rfl (by decide +kernel) ⟨Nat.le_of_ble_eq_true rfl, Nat.le_of_ble_eq_true rfl⟩) (hv_pm [0, 0, 0] rfl) rfl 0 7 rfl rfl rfl (Nat.le_of_ble_eq_true rfl) dX9_bestClip_10 ⟨Nat.le_of_ble_eq_true rfl, Nat.le_of_ble_eq_true rfl⟩ (fun u7 hu7 => ?_)
  refine hv_eqst (st' := [.int (zI (ox_best g))]) rfl ?_
  refine hv_weq (ws' := [(m9, .inr (7, [.int (zI (0)), .ref xt, .int (zI (sz)), .ref nw, .ref tr, .ref di, .int (zI (ac)), .ref ke, .ref ik, .ref wt, .int (zI (mz_key g)), .int (zI (sp)), .int (zI (ou))])), (nw, .inl (dA 0, 12, .inl (fun i => zI (g i)))), (wt, .inl (dA 0, 4096, .inl (fun i => zI (u7 i))))]) (rfl) ?_
  exact hv_iret C M dX9_bestClip_13 rfl rfl u7 hu7 rfl [] (List.Perm.of_eq (by first | rfl | exact (List.append_nil _).symm)) (Nat.le_refl _) (Nat.le_refl _)

set_option maxHeartbeats 4000000 in
set_option maxRecDepth 100000 in
theorem k_X9_winner (l : Launch) (D : va_G) (dA : Nat → ClassId) (m9 xt nw tr di ke ik wt : Nat) (rf sz ac ld sp ou : Int) (g : Nat → Int) (hg : WF g) (wv : Nat → Int) (hl : mz_LW ld wv) : hv_Ct l yX9_winner (hw_W yX9_winner cX9_winner 1 (some .int)) 9 D dA [.ref m9] ([(m9, .inr (7, [.int (zI (rf)), .ref xt, .int (zI (sz)), .ref nw, .ref tr, .ref di, .int (zI (ac)), .ref ke, .ref ik, .ref wt, .int (zI (ld)), .int (zI (sp)), .int (zI (ou))])), (nw, .inl (dA 0, 12, .inl (fun i => zI (g i)))), (wt, .inl (dA 0, 4096, .inl (fun i => zI (wv i))))]) 0 0 (S := Nat → Int) (fun _ => some (.int (zI (ox_win g)))) (fun u => mz_ws g u) (fun u => [(m9, .inr (7, [.int (zI (0)), .ref xt, .int (zI (sz)), .ref nw, .ref tr, .ref di, .int (zI (ac)), .ref ke, .ref ik, .ref wt, .int (zI (mz_key g)), .int (zI (sp)), .int (zI (ou))])), (nw, .inl (dA 0, 12, .inl (fun i => zI (g i)))), (wt, .inl (dA 0, 4096, .inl (fun i => zI (u i))))]) := by
  refine hv_of (cc := cX9_winner) (maxL := 1) (ret := (some .int)) (own := RX9) rfl (by decide) rfl (Nat.le_of_ble_eq_true rfl) ?_
  intro p e s m args below meth c C M
  refine hv_lveq (lv' := [(0, .ref m9)]) rfl ?_
  refine hv_aload_n C dX9_winner_0 0 rfl ?_
  refine hv_iconst C dX9_winner_1 (v := zI (0)) rfl ?_
  refine hv_put C dX9_winner_2 (fun w h => hw_c (tw_u_9 w h)) tyX9 tyX9_ok nmX9 0 (ci := 7) (ty := .int) rfl rfl 0 (by decide) (hw_c tw_f_RX9_40) rfl rfl rfl rfl (Nat.le_of_ble_eq_true rfl) ?_
  refine hv_weq (ws' := [(m9, .inr (7, [.int (zI (0)), .ref xt, .int (zI (sz)), .ref nw, .ref tr, .ref di, .int (zI (ac)), .ref ke, .ref ik, .ref wt, .int (zI (ld)), .int (zI (sp)), .int (zI (ou))])), (nw, .inl (dA 0, 12, .inl (fun i => zI (g i)))), (wt, .inl (dA 0, 4096, .inl (fun i => zI (wv i))))]) rfl ?_
  refine hv_aload_n C dX9_winner_5 0 rfl ?_
  refine hv_aload_n C dX9_winner_6 0 rfl ?_
  refine hv_get C dX9_winner_7 (fun w h => hw_c (tw_u_9 w h)) 0 (ci := 7) rfl rfl 3 (by decide) (hw_c tw_f_RX9_13) rfl ?_
  refine hv_callV (As := [.ref nw]) (rest := []) (wc := [(m9, .inr (7, [.int (zI (0)), .ref xt, .int (zI (sz)), .ref nw, .ref tr, .ref di, .int (zI (ac)), .ref ke, .ref ik, .ref wt, .int (zI (ld)), .int (zI (sp)), .int (zI (ou))])), (nw, .inl (dA 0, 12, .inl (fun i => zI (g i)))), (wt, .inl (dA 0, 4096, .inl (fun i => zI (wv i))))]) (wr := []) C (k_X9_winnerOf l D dA m9 xt nw tr di ke ik wt 0 sz ac ld sp ou nw g hg wv hl) (cwV 1 C.1.2.2.2.2 (hw_V tw_m_RX9_184 tw_i_X9_winnerOf tw_s_X9_winnerOf tw_n_RX9 tw_k_X9_winnerOf) rfl rfl rfl (by decide +kernel) ⟨Nat.le_of_ble_eq_true rfl, Nat.le_of_ble_eq_true rfl⟩) (hv_pm [0, 0, 0] rfl) rfl 0 7 rfl rfl rfl (Nat.le_of_ble_eq_true rfl) dX9_winner_10 ⟨Nat.le_of_ble_eq_true rfl, Nat.le_of_ble_eq_true rfl⟩ (fun u7 hu7 => ?_)
  refine hv_eqst (st' := [.int (zI (ox_win g))]) rfl ?_
  refine hv_weq (ws' := [(m9, .inr (7, [.int (zI (0)), .ref xt, .int (zI (sz)), .ref nw, .ref tr, .ref di, .int (zI (ac)), .ref ke, .ref ik, .ref wt, .int (zI (mz_key g)), .int (zI (sp)), .int (zI (ou))])), (nw, .inl (dA 0, 12, .inl (fun i => zI (g i)))), (wt, .inl (dA 0, 4096, .inl (fun i => zI (u7 i))))]) (rfl) ?_
  exact hv_iret C M dX9_winner_13 rfl rfl u7 hu7 rfl [] (List.Perm.of_eq (by first | rfl | exact (List.append_nil _).symm)) (Nat.le_refl _) (Nat.le_refl _)

set_option maxHeartbeats 4000000 in
set_option maxRecDepth 100000 in
theorem k_X9_bestClips (l : Launch) (D : va_G) (dA : Nat → ClassId) (m9 xt nw tr di ke ik wt : Nat) (rf sz ac ld sp ou : Int) (g : Nat → Int) (hg : WF g) (wv : Nat → Int) (hl : mz_LW ld wv) : hv_Ct l yX9_bestClips (hw_W yX9_bestClips cX9_bestClips 3 (some .int)) 9 D dA [.ref m9] ([(m9, .inr (7, [.int (zI (rf)), .ref xt, .int (zI (sz)), .ref nw, .ref tr, .ref di, .int (zI (ac)), .ref ke, .ref ik, .ref wt, .int (zI (ld)), .int (zI (sp)), .int (zI (ou))])), (nw, .inl (dA 0, 12, .inl (fun i => zI (g i)))), (wt, .inl (dA 0, 4096, .inl (fun i => zI (wv i))))]) 0 0 (S := Nat → Int) (fun _ => some (.int (zI (wo_cnt (wo_isb (gS g) (gW g) (gR g) (gH g)) (wo_cls (gS g) (gR g)) : Int)))) (fun u => mz_ws g u) (fun u => [(m9, .inr (7, [.int (zI (0)), .ref xt, .int (zI (sz)), .ref nw, .ref tr, .ref di, .int (zI (ac)), .ref ke, .ref ik, .ref wt, .int (zI (mz_key g)), .int (zI (sp)), .int (zI (ou))])), (nw, .inl (dA 0, 12, .inl (fun i => zI (g i)))), (wt, .inl (dA 0, 4096, .inl (fun i => zI (u i))))]) := by
  have hg0 := hg.1
  have hg1 := hg.e1
  have hgx := hg.x
  have hg5 := hg.2.2.2.2.2
  have hgR := hg.R
  have hgS := hg.S
  have hge0 := hg.e0
  have hge5 := hg.e5
  refine hv_of (cc := cX9_bestClips) (maxL := 3) (ret := (some .int)) (own := RX9) rfl (by decide) rfl (Nat.le_of_ble_eq_true rfl) ?_
  intro p e s m args below meth c C M
  refine hv_lveq (lv' := [(0, .ref m9)]) rfl ?_
  refine hv_aload_n C dX9_bestClips_0 0 rfl ?_
  refine hv_iconst C dX9_bestClips_1 (v := zI (0)) rfl ?_
  refine hv_put C dX9_bestClips_2 (fun w h => hw_c (tw_u_9 w h)) tyX9 tyX9_ok nmX9 0 (ci := 7) (ty := .int) rfl rfl 0 (by decide) (hw_c tw_f_RX9_40) rfl rfl rfl rfl (Nat.le_of_ble_eq_true rfl) ?_
  refine hv_weq (ws' := [(m9, .inr (7, [.int (zI (0)), .ref xt, .int (zI (sz)), .ref nw, .ref tr, .ref di, .int (zI (ac)), .ref ke, .ref ik, .ref wt, .int (zI (ld)), .int (zI (sp)), .int (zI (ou))])), (nw, .inl (dA 0, 12, .inl (fun i => zI (g i)))), (wt, .inl (dA 0, 4096, .inl (fun i => zI (wv i))))]) rfl ?_
  refine hv_aload_n C dX9_bestClips_5 0 rfl ?_
  refine hv_aload_n C dX9_bestClips_6 0 rfl ?_
  refine hv_get C dX9_bestClips_7 (fun w h => hw_c (tw_u_9 w h)) 0 (ci := 7) rfl rfl 3 (by decide) (hw_c tw_f_RX9_13) rfl ?_
  refine hv_callV (As := [.ref nw]) (rest := []) (wc := [(m9, .inr (7, [.int (zI (0)), .ref xt, .int (zI (sz)), .ref nw, .ref tr, .ref di, .int (zI (ac)), .ref ke, .ref ik, .ref wt, .int (zI (ld)), .int (zI (sp)), .int (zI (ou))])), (nw, .inl (dA 0, 12, .inl (fun i => zI (g i)))), (wt, .inl (dA 0, 4096, .inl (fun i => zI (wv i))))]) (wr := []) C (k_X9_layWorths l D dA m9 xt nw tr di ke ik wt 0 sz ac ld sp ou nw g hg wv hl) (cwV 1 C.1.2.2.2.2 (hw_V tw_m_RX9_98 tw_i_X9_layWorths tw_s_X9_layWorths tw_n_RX9 tw_k_X9_layWorths) rfl rfl rfl (by decide +kernel) ⟨Nat.le_of_ble_eq_true rfl, Nat.le_of_ble_eq_true rfl⟩) (hv_pm [0, 0, 0] rfl) rfl 0 7 rfl rfl rfl (Nat.le_of_ble_eq_true rfl) dX9_bestClips_10 ⟨Nat.le_of_ble_eq_true rfl, Nat.le_of_ble_eq_true rfl⟩ (fun u7 hu7 => ?_)
  refine hv_eqst (st' := []) rfl ?_
  refine hv_weq (ws' := [(m9, .inr (7, [.int (zI (0)), .ref xt, .int (zI (sz)), .ref nw, .ref tr, .ref di, .int (zI (ac)), .ref ke, .ref ik, .ref wt, .int (zI (mz_key g)), .int (zI (sp)), .int (zI (ou))])), (nw, .inl (dA 0, 12, .inl (fun i => zI (g i)))), (wt, .inl (dA 0, 4096, .inl (fun i => zI (u7 i))))]) (rfl) ?_
  refine hv_iconst C dX9_bestClips_13 (v := zI (0)) rfl ?_
  refine hv_istore_n C dX9_bestClips_14 (lw := [(1, .int (zI (0))), (0, .ref m9)]) (by decide) rfl ?_
  refine hv_iconst C dX9_bestClips_15 (v := zI (1)) rfl ?_
  refine hv_istore_n C dX9_bestClips_16 (lw := [(2, .int (zI (1))), (1, .int (zI (0))), (0, .ref m9)]) (by decide) rfl ?_
  refine hv_loop (σ := Nat) (fun n8 x => x + n8 = (wo_cls (gS g) (gR g)).length) (fun x => [(m9, .inr (7, [.int (zI (0)), .ref xt, .int (zI (sz)), .ref nw, .ref tr, .ref di, .int (zI (ac)), .ref ke, .ref ik, .ref wt, .int (zI (mz_key g)), .int (zI (sp)), .int (zI (ou))])), (nw, .inl (dA 0, 12, .inl (fun i => zI (g i)))), (wt, .inl (dA 0, 4096, .inl (fun i => zI (u7 i))))]) (fun x => [(2, .int (zI (((mz_at (gS g) (gR g) x) : Int)))), (1, .int (zI ((wo_cnt (wo_isb (gS g) (gW g) (gR g) (gH g)) ((wo_cls (gS g) (gR g)).take x) : Int)))), (0, .ref m9)]) (fun x => []) (fun _ => 0) (fun _ => 0) ((wo_cls (gS g) (gR g)).length) (0) (Nat.zero_add _) (⟨rfl, by rw [mz_at_0 hg.S hg.R]; rfl, rfl, rfl, rfl⟩) (fun n8 x hJ ih => ?_)
  obtain ⟨i, rfl⟩ : ∃ i, i = x := ⟨x, rfl⟩
  have hatl := mz_at_le hg.S hg.R (i := i) (by omega)
  have hcnl := mz_cntl (p := wo_isb (gS g) (gW g) (gR g) (gH g)) (S := gS g) (r := gR g) (i := i) (by omega) (by omega)
  refine hv_iload_n C dX9_bestClips_17 0 rfl ?_
  refine hv_sipush C dX9_bestClips_18 (v := zI (1000)) (by decide +kernel) ?_
  refine hv_icmp_ge C dX9_bestClips_21 (tgt := 91) (by decide) (zI_le (by omega)) (fun hc21 => ?_) (fun hc21 => ?_)
  · have hil := mz_at_len hg.S hg.R (i := i) (by omega)
    obtain rfl : i = (wo_cls (gS g) (gR g)).length := (by omega)
    refine hv_iload_n C dX9_bestClips_91 1 rfl ?_
    exact hv_iret C M dX9_bestClips_92 rfl rfl u7 hu7 (hv_rv (by rw [List.take_length])) [] (List.Perm.of_eq (by first | rfl | exact (List.append_nil _).symm)) (Nat.le_refl _) (Nat.le_refl _)
  · have hlt9 : i < (wo_cls (gS g) (gR g)).length := Nat.lt_of_not_le (fun q => by rw [mz_at_out q] at hc21; omega)
    have hat := (mz_at_n hg.S hg.R hlt9).2
    have hnx := (mz_at_n hg.S hg.R hlt9).1
    have hmem := mz_at_in hlt9
    refine hv_iload_n C dX9_bestClips_24 1 rfl ?_
    refine hv_aload_n C dX9_bestClips_25 2 rfl ?_
    refine hv_aload_n C dX9_bestClips_26 2 rfl ?_
    refine hv_get C dX9_bestClips_27 (fun w h => hw_c (tw_u_9 w h)) 0 (ci := 7) rfl rfl 3 (by decide) (hw_c tw_f_RX9_13) rfl ?_
    refine hv_aload_n C dX9_bestClips_30 2 rfl ?_
    refine hv_get C dX9_bestClips_31 (fun w h => hw_c (tw_u_9 w h)) 0 (ci := 7) rfl rfl 3 (by decide) (hw_c tw_f_RX9_13) rfl ?_
    refine hv_iconst C dX9_bestClips_34 (v := zI (1)) rfl ?_
    refine hv_iald C dX9_bestClips_35 1 rfl (1) (rfl) (by omega) (by omega) (v := (zI (g 1))) rfl ?_
    refine hv_iload_n C dX9_bestClips_36 0 rfl ?_
    refine hv_callV (As := [.ref nw, .int (zI (g 1)), .int (zI (((mz_at (gS g) (gR g) i) : Int)))]) (rest := [.int (zI ((wo_cnt (wo_isb (gS g) (gW g) (gR g) (gH g)) ((wo_cls (gS g) (gR g)).take i) : Int)))]) (wc := [(m9, .inr (7, [.int (zI (0)), .ref xt, .int (zI (sz)), .ref nw, .ref tr, .ref di, .int (zI (ac)), .ref ke, .ref ik, .ref wt, .int (zI (mz_key g)), .int (zI (sp)), .int (zI (ou))])), (nw, .inl (dA 0, 12, .inl (fun i => zI (g i))))]) (wr := [(wt, .inl (dA 0, 4096, .inl (fun i => zI (u7 i))))]) C (k_X9_may l D dA xt nw tr di ke ik wt 0 sz ac (mz_key g) sp ou m9 nw g hg (gH g) hg.e1 hg.H (mz_at (gS g) (gR g) i) rfl hmem) (cwV 3 C.1.2.2.2.2 (hw_V tw_m_RX9_88 tw_i_X9_may tw_s_X9_may tw_n_RX9 tw_k_X9_may) rfl rfl rfl (by decide +kernel) ⟨Nat.le_of_ble_eq_true rfl, Nat.le_of_ble_eq_true rfl⟩) (hv_pm [0, 0] rfl) rfl 0 7 rfl rfl rfl (Nat.le_of_ble_eq_true rfl) dX9_bestClips_37 ⟨Nat.le_of_ble_eq_true rfl, Nat.le_of_ble_eq_true rfl⟩ (fun _ _ => ?_)
    refine hv_eqst (st' := [.int (zI (zB (decide (¬ sp_cc (gH g) (mz_at (gS g) (gR g) i) = gH g)))), .int (zI ((wo_cnt (wo_isb (gS g) (gW g) (gR g) (gH g)) ((wo_cls (gS g) (gR g)).take i) : Int)))]) rfl ?_
    refine hv_weq (ws' := [(m9, .inr (7, [.int (zI (0)), .ref xt, .int (zI (sz)), .ref nw, .ref tr, .ref di, .int (zI (ac)), .ref ke, .ref ik, .ref wt, .int (zI (mz_key g)), .int (zI (sp)), .int (zI (ou))])), (nw, .inl (dA 0, 12, .inl (fun i => zI (g i)))), (wt, .inl (dA 0, 4096, .inl (fun i => zI (u7 i))))]) (rfl) ?_
    refine hv_if_eq C dX9_bestClips_40 (tgt := 76) (by decide) zB_0 (fun hc40 => ?_) (fun hc40 => ?_)
    · have hib := mz_isbn hg hg.H (Decidable.not_not.mp hc40)
      refine hv_iconst C dX9_bestClips_76 (v := zI (0)) rfl ?_
      refine hv_iadd C dX9_bestClips_77 (z := zI ((wo_cnt (wo_isb (gS g) (gW g) (gR g) (gH g)) ((wo_cls (gS g) (gR g)).take (i + 1)) : Int))) ((zI_add _ _).trans (zI_c (by rw [mz_cnt_f hlt9 hib]; omega))) ?_
      refine hv_istore_n C dX9_bestClips_78 (lw := [(1, .int (zI ((wo_cnt (wo_isb (gS g) (gW g) (gR g) (gH g)) ((wo_cls (gS g) (gR g)).take (i + 1)) : Int)))), (2, .int (zI (((mz_at (gS g) (gR g) i) : Int)))), (0, .ref m9)]) (by decide) rfl ?_
      refine hv_aload_n C dX9_bestClips_79 2 rfl ?_
      refine hv_get C dX9_bestClips_80 (fun w h => hw_c (tw_u_9 w h)) 0 (ci := 7) rfl rfl 3 (by decide) (hw_c tw_f_RX9_13) rfl ?_
      refine hv_iload_n C dX9_bestClips_83 1 rfl ?_
      refine hv_callS (As := [.ref nw, .int (zI (((mz_at (gS g) (gR g) i) : Int)))]) (rest := []) (wc := [(nw, .inl (dA 0, 12, .inl (fun i => zI (g i))))]) (wr := [(m9, .inr (7, [.int (zI (0)), .ref xt, .int (zI (sz)), .ref nw, .ref tr, .ref di, .int (zI (ac)), .ref ke, .ref ik, .ref wt, .int (zI (mz_key g)), .int (zI (sp)), .int (zI (ou))])), (wt, .inl (dA 0, 4096, .inl (fun i => zI (u7 i))))]) C (k_X9_next l D dA nw g hg (mz_at (gS g) (gR g) i) rfl hat) (va_cwS 2 C.1.2.2.2.2 (hw_S tw_m_RX9_95 tw_t_X9_next tw_n_RX9 tw_k_X9_next) rfl rfl rfl (by decide +kernel) ⟨Nat.le_of_ble_eq_true rfl, Nat.le_of_ble_eq_true rfl⟩) (hv_pm [1] rfl) rfl rfl (Nat.le_of_ble_eq_true rfl) dX9_bestClips_84 ⟨Nat.le_of_ble_eq_true rfl, Nat.le_of_ble_eq_true rfl⟩ (fun _ _ => ?_)
      refine hv_eqst (st' := [.int (zI ((mz_n (gS g) (gR g) (mz_at (gS g) (gR g) i) : Int)))]) rfl ?_
      refine hv_weq (ws' := [(nw, .inl (dA 0, 12, .inl (fun i => zI (g i)))), (m9, .inr (7, [.int (zI (0)), .ref xt, .int (zI (sz)), .ref nw, .ref tr, .ref di, .int (zI (ac)), .ref ke, .ref ik, .ref wt, .int (zI (mz_key g)), .int (zI (sp)), .int (zI (ou))])), (wt, .inl (dA 0, 4096, .inl (fun i => zI (u7 i))))]) (rfl) ?_
      refine hv_srt [1, 0, 0] (ws' := [(m9, .inr (7, [.int (zI (0)), .ref xt, .int (zI (sz)), .ref nw, .ref tr, .ref di, .int (zI (ac)), .ref ke, .ref ik, .ref wt, .int (zI (mz_key g)), .int (zI (sp)), .int (zI (ou))])), (nw, .inl (dA 0, 12, .inl (fun i => zI (g i)))), (wt, .inl (dA 0, 4096, .inl (fun i => zI (u7 i))))]) rfl ?_
      refine hv_topi (y := zI (((mz_at (gS g) (gR g) (i + 1)) : Nat) : Int)) (by rw [hnx]) ?_
      refine hv_istore_n C dX9_bestClips_87 (lw := [(2, .int (zI (((mz_at (gS g) (gR g) (i + 1)) : Int)))), (1, .int (zI ((wo_cnt (wo_isb (gS g) (gW g) (gR g) (gH g)) ((wo_cls (gS g) (gR g)).take (i + 1)) : Int)))), (0, .ref m9)]) (by decide) rfl ?_
      refine hv_goto C dX9_bestClips_88 (tgt := 17) (by decide) ?_
      refine hv_lsub [0, 1, 2] (lv' := [(2, .int (zI (((mz_at (gS g) (gR g) (i + 1)) : Int)))), (1, .int (zI ((wo_cnt (wo_isb (gS g) (gW g) (gR g) (gH g)) ((wo_cls (gS g) (gR g)).take (i + 1)) : Int)))), (0, .ref m9)]) rfl ?_
      obtain ⟨k8, rfl⟩ : ∃ k8, n8 = k8 + 1 := ⟨n8 - 1, by omega⟩
      exact ih k8 (i + 1) (by omega) (by omega)
    · have hTr := mz_T_ran hg hg.H (mz_ws_b hu7 hg.H) (Decidable.not_not.mp hc40)
      have hTb := mz_isb hg hu7 hg.H (Decidable.not_not.mp hc40)
      have hwr := hu7 _ hg.H
      have hwr2 := ox_w_ran hg hg.H
      rw [← hwr] at hwr2
      refine hv_aload_n C dX9_bestClips_43 2 rfl ?_
      refine hv_aload_n C dX9_bestClips_44 2 rfl ?_
      refine hv_get C dX9_bestClips_45 (fun w h => hw_c (tw_u_9 w h)) 0 (ci := 7) rfl rfl 3 (by decide) (hw_c tw_f_RX9_13) rfl ?_
      refine hv_aload_n C dX9_bestClips_48 2 rfl ?_
      refine hv_get C dX9_bestClips_49 (fun w h => hw_c (tw_u_9 w h)) 0 (ci := 7) rfl rfl 3 (by decide) (hw_c tw_f_RX9_13) rfl ?_
      refine hv_iconst C dX9_bestClips_52 (v := zI (1)) rfl ?_
      refine hv_iald C dX9_bestClips_53 1 rfl (1) (rfl) (by omega) (by omega) (v := (zI (g 1))) rfl ?_
      refine hv_iload_n C dX9_bestClips_54 0 rfl ?_
      refine hv_callV (As := [.ref nw, .int (zI (g 1)), .int (zI (((mz_at (gS g) (gR g) i) : Int)))]) (rest := [.int (zI ((wo_cnt (wo_isb (gS g) (gW g) (gR g) (gH g)) ((wo_cls (gS g) (gR g)).take i) : Int)))]) (wc := [(m9, .inr (7, [.int (zI (0)), .ref xt, .int (zI (sz)), .ref nw, .ref tr, .ref di, .int (zI (ac)), .ref ke, .ref ik, .ref wt, .int (zI (mz_key g)), .int (zI (sp)), .int (zI (ou))])), (nw, .inl (dA 0, 12, .inl (fun i => zI (g i)))), (wt, .inl (dA 0, 4096, .inl (fun i => zI (u7 i))))]) (wr := []) C (k_X9_tried l D dA xt nw tr di ke ik wt 0 sz ac (mz_key g) sp ou m9 nw g hg u7 (gH g) hg.e1 hg.H (mz_at (gS g) (gR g) i) rfl hmem) (cwV 3 C.1.2.2.2.2 (hw_V tw_m_RX9_92 tw_i_X9_tried tw_s_X9_tried tw_n_RX9 tw_k_X9_tried) rfl rfl rfl (by decide +kernel) ⟨Nat.le_of_ble_eq_true rfl, Nat.le_of_ble_eq_true rfl⟩) (hv_pm [0, 0, 0] rfl) rfl 0 7 rfl rfl rfl (Nat.le_of_ble_eq_true rfl) dX9_bestClips_55 ⟨Nat.le_of_ble_eq_true rfl, Nat.le_of_ble_eq_true rfl⟩ (fun _ _ => ?_)
      refine hv_eqst (st' := [.int (zI (mz_T g u7 (gH g) (mz_at (gS g) (gR g) i))), .int (zI ((wo_cnt (wo_isb (gS g) (gW g) (gR g) (gH g)) ((wo_cls (gS g) (gR g)).take i) : Int)))]) rfl ?_
      refine hv_weq (ws' := [(m9, .inr (7, [.int (zI (0)), .ref xt, .int (zI (sz)), .ref nw, .ref tr, .ref di, .int (zI (ac)), .ref ke, .ref ik, .ref wt, .int (zI (mz_key g)), .int (zI (sp)), .int (zI (ou))])), (nw, .inl (dA 0, 12, .inl (fun i => zI (g i)))), (wt, .inl (dA 0, 4096, .inl (fun i => zI (u7 i))))]) (rfl) ?_
      refine hv_aload_n C dX9_bestClips_58 2 rfl ?_
      refine hv_get C dX9_bestClips_59 (fun w h => hw_c (tw_u_9 w h)) 0 (ci := 7) rfl rfl 9 (by decide) (hw_c tw_f_RX9_29) rfl ?_
      refine hv_aload_n C dX9_bestClips_62 2 rfl ?_
      refine hv_get C dX9_bestClips_63 (fun w h => hw_c (tw_u_9 w h)) 0 (ci := 7) rfl rfl 3 (by decide) (hw_c tw_f_RX9_13) rfl ?_
      refine hv_iconst C dX9_bestClips_66 (v := zI (1)) rfl ?_
      refine hv_iald C dX9_bestClips_67 1 rfl (1) (rfl) (by omega) (by omega) (v := (zI (g 1))) rfl ?_
      refine hv_iald C dX9_bestClips_68 2 rfl (gH g) (zI_ix hg.e1) (by omega) (by omega) (v := (zI (u7 (gH g)))) rfl ?_
      refine hv_icmp_ne C dX9_bestClips_69 (tgt := 76) (by decide) (zI_ne (by omega)) (fun hc69 => ?_) (fun hc69 => ?_)
      · have hib := hTb.trans (decide_eq_false hc69)
        refine hv_iconst C dX9_bestClips_76 (v := zI (0)) rfl ?_
        refine hv_iadd C dX9_bestClips_77 (z := zI ((wo_cnt (wo_isb (gS g) (gW g) (gR g) (gH g)) ((wo_cls (gS g) (gR g)).take (i + 1)) : Int))) ((zI_add _ _).trans (zI_c (by rw [mz_cnt_f hlt9 hib]; omega))) ?_
        refine hv_istore_n C dX9_bestClips_78 (lw := [(1, .int (zI ((wo_cnt (wo_isb (gS g) (gW g) (gR g) (gH g)) ((wo_cls (gS g) (gR g)).take (i + 1)) : Int)))), (2, .int (zI (((mz_at (gS g) (gR g) i) : Int)))), (0, .ref m9)]) (by decide) rfl ?_
        refine hv_aload_n C dX9_bestClips_79 2 rfl ?_
        refine hv_get C dX9_bestClips_80 (fun w h => hw_c (tw_u_9 w h)) 0 (ci := 7) rfl rfl 3 (by decide) (hw_c tw_f_RX9_13) rfl ?_
        refine hv_iload_n C dX9_bestClips_83 1 rfl ?_
        refine hv_callS (As := [.ref nw, .int (zI (((mz_at (gS g) (gR g) i) : Int)))]) (rest := []) (wc := [(nw, .inl (dA 0, 12, .inl (fun i => zI (g i))))]) (wr := [(m9, .inr (7, [.int (zI (0)), .ref xt, .int (zI (sz)), .ref nw, .ref tr, .ref di, .int (zI (ac)), .ref ke, .ref ik, .ref wt, .int (zI (mz_key g)), .int (zI (sp)), .int (zI (ou))])), (wt, .inl (dA 0, 4096, .inl (fun i => zI (u7 i))))]) C (k_X9_next l D dA nw g hg (mz_at (gS g) (gR g) i) rfl hat) (va_cwS 2 C.1.2.2.2.2 (hw_S tw_m_RX9_95 tw_t_X9_next tw_n_RX9 tw_k_X9_next) rfl rfl rfl (by decide +kernel) ⟨Nat.le_of_ble_eq_true rfl, Nat.le_of_ble_eq_true rfl⟩) (hv_pm [1] rfl) rfl rfl (Nat.le_of_ble_eq_true rfl) dX9_bestClips_84 ⟨Nat.le_of_ble_eq_true rfl, Nat.le_of_ble_eq_true rfl⟩ (fun _ _ => ?_)
        refine hv_eqst (st' := [.int (zI ((mz_n (gS g) (gR g) (mz_at (gS g) (gR g) i) : Int)))]) rfl ?_
        refine hv_weq (ws' := [(nw, .inl (dA 0, 12, .inl (fun i => zI (g i)))), (m9, .inr (7, [.int (zI (0)), .ref xt, .int (zI (sz)), .ref nw, .ref tr, .ref di, .int (zI (ac)), .ref ke, .ref ik, .ref wt, .int (zI (mz_key g)), .int (zI (sp)), .int (zI (ou))])), (wt, .inl (dA 0, 4096, .inl (fun i => zI (u7 i))))]) (rfl) ?_
        refine hv_srt [1, 0, 0] (ws' := [(m9, .inr (7, [.int (zI (0)), .ref xt, .int (zI (sz)), .ref nw, .ref tr, .ref di, .int (zI (ac)), .ref ke, .ref ik, .ref wt, .int (zI (mz_key g)), .int (zI (sp)), .int (zI (ou))])), (nw, .inl (dA 0, 12, .inl (fun i => zI (g i)))), (wt, .inl (dA 0, 4096, .inl (fun i => zI (u7 i))))]) rfl ?_
        refine hv_topi (y := zI (((mz_at (gS g) (gR g) (i + 1)) : Nat) : Int)) (by rw [hnx]) ?_
        refine hv_istore_n C dX9_bestClips_87 (lw := [(2, .int (zI (((mz_at (gS g) (gR g) (i + 1)) : Int)))), (1, .int (zI ((wo_cnt (wo_isb (gS g) (gW g) (gR g) (gH g)) ((wo_cls (gS g) (gR g)).take (i + 1)) : Int)))), (0, .ref m9)]) (by decide) rfl ?_
        refine hv_goto C dX9_bestClips_88 (tgt := 17) (by decide) ?_
        refine hv_lsub [0, 1, 2] (lv' := [(2, .int (zI (((mz_at (gS g) (gR g) (i + 1)) : Int)))), (1, .int (zI ((wo_cnt (wo_isb (gS g) (gW g) (gR g) (gH g)) ((wo_cls (gS g) (gR g)).take (i + 1)) : Int)))), (0, .ref m9)]) rfl ?_
        obtain ⟨k8, rfl⟩ : ∃ k8, n8 = k8 + 1 := ⟨n8 - 1, by omega⟩
        exact ih k8 (i + 1) (by omega) (by omega)
      · have hib := hTb.trans (decide_eq_true (Decidable.not_not.mp hc69))
        refine hv_iconst C dX9_bestClips_72 (v := zI (1)) rfl ?_
        refine hv_goto C dX9_bestClips_73 (tgt := 77) (by decide) ?_
        refine hv_iadd C dX9_bestClips_77 (z := zI ((wo_cnt (wo_isb (gS g) (gW g) (gR g) (gH g)) ((wo_cls (gS g) (gR g)).take (i + 1)) : Int))) ((zI_add _ _).trans (zI_c (by rw [mz_cnt_t hlt9 hib]; omega))) ?_
        refine hv_istore_n C dX9_bestClips_78 (lw := [(1, .int (zI ((wo_cnt (wo_isb (gS g) (gW g) (gR g) (gH g)) ((wo_cls (gS g) (gR g)).take (i + 1)) : Int)))), (2, .int (zI (((mz_at (gS g) (gR g) i) : Int)))), (0, .ref m9)]) (by decide) rfl ?_
        refine hv_aload_n C dX9_bestClips_79 2 rfl ?_
        refine hv_get C dX9_bestClips_80 (fun w h => hw_c (tw_u_9 w h)) 0 (ci := 7) rfl rfl 3 (by decide) (hw_c tw_f_RX9_13) rfl ?_
        refine hv_iload_n C dX9_bestClips_83 1 rfl ?_
        refine hv_callS (As := [.ref nw, .int (zI (((mz_at (gS g) (gR g) i) : Int)))]) (rest := []) (wc := [(nw, .inl (dA 0, 12, .inl (fun i => zI (g i))))]) (wr := [(m9, .inr (7, [.int (zI (0)), .ref xt, .int (zI (sz)), .ref nw, .ref tr, .ref di, .int (zI (ac)), .ref ke, .ref ik, .ref wt, .int (zI (mz_key g)), .int (zI (sp)), .int (zI (ou))])), (wt, .inl (dA 0, 4096, .inl (fun i => zI (u7 i))))]) C (k_X9_next l D dA nw g hg (mz_at (gS g) (gR g) i) rfl hat) (va_cwS 2 C.1.2.2.2.2 (hw_S tw_m_RX9_95 tw_t_X9_next tw_n_RX9 tw_k_X9_next) rfl rfl rfl (by decide +kernel) ⟨Nat.le_of_ble_eq_true rfl, Nat.le_of_ble_eq_true rfl⟩) (hv_pm [1] rfl) rfl rfl (Nat.le_of_ble_eq_true rfl) dX9_bestClips_84 ⟨Nat.le_of_ble_eq_true rfl, Nat.le_of_ble_eq_true rfl⟩ (fun _ _ => ?_)
        refine hv_eqst (st' := [.int (zI ((mz_n (gS g) (gR g) (mz_at (gS g) (gR g) i) : Int)))]) rfl ?_
        refine hv_weq (ws' := [(nw, .inl (dA 0, 12, .inl (fun i => zI (g i)))), (m9, .inr (7, [.int (zI (0)), .ref xt, .int (zI (sz)), .ref nw, .ref tr, .ref di, .int (zI (ac)), .ref ke, .ref ik, .ref wt, .int (zI (mz_key g)), .int (zI (sp)), .int (zI (ou))])), (wt, .inl (dA 0, 4096, .inl (fun i => zI (u7 i))))]) (rfl) ?_
        refine hv_srt [1, 0, 0] (ws' := [(m9, .inr (7, [.int (zI (0)), .ref xt, .int (zI (sz)), .ref nw, .ref tr, .ref di, .int (zI (ac)), .ref ke, .ref ik, .ref wt, .int (zI (mz_key g)), .int (zI (sp)), .int (zI (ou))])), (nw, .inl (dA 0, 12, .inl (fun i => zI (g i)))), (wt, .inl (dA 0, 4096, .inl (fun i => zI (u7 i))))]) rfl ?_
        refine hv_topi (y := zI (((mz_at (gS g) (gR g) (i + 1)) : Nat) : Int)) (by rw [hnx]) ?_
        refine hv_istore_n C dX9_bestClips_87 (lw := [(2, .int (zI (((mz_at (gS g) (gR g) (i + 1)) : Int)))), (1, .int (zI ((wo_cnt (wo_isb (gS g) (gW g) (gR g) (gH g)) ((wo_cls (gS g) (gR g)).take (i + 1)) : Int)))), (0, .ref m9)]) (by decide) rfl ?_
        refine hv_goto C dX9_bestClips_88 (tgt := 17) (by decide) ?_
        refine hv_lsub [0, 1, 2] (lv' := [(2, .int (zI (((mz_at (gS g) (gR g) (i + 1)) : Int)))), (1, .int (zI ((wo_cnt (wo_isb (gS g) (gW g) (gR g) (gH g)) ((wo_cls (gS g) (gR g)).take (i + 1)) : Int)))), (0, .ref m9)]) rfl ?_
        obtain ⟨k8, rfl⟩ : ∃ k8, n8 = k8 + 1 := ⟨n8 - 1, by omega⟩
        exact ih k8 (i + 1) (by omega) (by omega)

set_option maxHeartbeats 4000000 in
set_option maxRecDepth 100000 in
theorem k_X9_ifClipped (l : Launch) (D : va_G) (dA : Nat → ClassId) (m9 xt nw tr di ke ik wt : Nat) (rf sz ac ld sp ou : Int) (g : Nat → Int) (hg : WF g) (wv : Nat → Int) (hl : mz_LW ld wv) (a : Int) (ha : -2147483648 ≤ a ∧ a < 2147483648) (b : Int) (hb : -2147483648 ≤ b ∧ b < 2147483648) (k : Int) (hk : -2147483648 ≤ k ∧ k < 2147483648) (v : Int) (hv : -2147483648 ≤ v ∧ v < 2147483648) : hv_Ct l yX9_ifClipped (hw_W yX9_ifClipped cX9_ifClipped 7 (some .int)) 7 D dA [.ref m9, .int (zI (a)), .int (zI (b)), .int (zI (k)), .int (zI (v))] ([(m9, .inr (7, [.int (zI (rf)), .ref xt, .int (zI (sz)), .ref nw, .ref tr, .ref di, .int (zI (ac)), .ref ke, .ref ik, .ref wt, .int (zI (ld)), .int (zI (sp)), .int (zI (ou))])), (nw, .inl (dA 0, 12, .inl (fun i => zI (g i)))), (wt, .inl (dA 0, 4096, .inl (fun i => zI (wv i))))]) 0 0 (S := Int × (Nat → Int)) (fun _ => mz_w (xc_ifc g a b k v) (some (.int (zI (xa_ifc g a b k v)))) (some (.int (zI 0)))) (fun u => mz_LW u.1 u.2) (fun u => [(m9, .inr (7, [.int (zI (mz_k2 hx_IOE (xc_ifc g a b k v))), .ref xt, .int (zI (sz)), .ref nw, .ref tr, .ref di, .int (zI (ac)), .ref ke, .ref ik, .ref wt, .int (zI (u.1)), .int (zI (sp)), .int (zI (ou))])), (nw, .inl (dA 0, 12, .inl (fun i => zI (g i)))), (wt, .inl (dA 0, 4096, .inl (fun i => zI (u.2 i))))]) := by
  have hg0 := hg.1
  have hg1 := hg.e1
  have hgx := hg.x
  have hg5 := hg.2.2.2.2.2
  have hgR := hg.R
  have hgS := hg.S
  have hge0 := hg.e0
  have hge5 := hg.e5
  refine hv_of (cc := cX9_ifClipped) (maxL := 7) (ret := (some .int)) (own := RX9) rfl (by decide) rfl (Nat.le_of_ble_eq_true rfl) ?_
  intro p e s m args below meth c C M
  refine hv_lveq (lv' := [(0, .ref m9), (1, .int (zI (a))), (2, .int (zI (b))), (3, .int (zI (k))), (4, .int (zI (v)))]) rfl ?_
  refine hv_aload_n C dX9_ifClipped_0 0 rfl ?_
  refine hv_aload_n C dX9_ifClipped_1 0 rfl ?_
  refine hv_get C dX9_ifClipped_2 (fun w h => hw_c (tw_u_9 w h)) 0 (ci := 7) rfl rfl 3 (by decide) (hw_c tw_f_RX9_13) rfl ?_
  refine hv_iload_n C dX9_ifClipped_5 1 rfl ?_
  refine hv_callS (As := [.ref nw, .int (zI (a))]) (rest := [.ref m9]) (wc := [(nw, .inl (dA 0, 12, .inl (fun i => zI (g i))))]) (wr := [(m9, .inr (7, [.int (zI (rf)), .ref xt, .int (zI (sz)), .ref nw, .ref tr, .ref di, .int (zI (ac)), .ref ke, .ref ik, .ref wt, .int (zI (ld)), .int (zI (sp)), .int (zI (ou))])), (wt, .inl (dA 0, 4096, .inl (fun i => zI (wv i))))]) C (k_X9_isStem l D dA nw g (by omega) (a) (by omega)) (va_cwS 2 C.1.2.2.2.2 (hw_S tw_m_RX9_53 tw_t_X9_isStem tw_n_RX9 tw_k_X9_isStem) rfl rfl rfl (by decide +kernel) ⟨Nat.le_of_ble_eq_true rfl, Nat.le_of_ble_eq_true rfl⟩) (hv_pm [1] rfl) rfl rfl (Nat.le_of_ble_eq_true rfl) dX9_ifClipped_6 ⟨Nat.le_of_ble_eq_true rfl, Nat.le_of_ble_eq_true rfl⟩ (fun _ _ => ?_)
  refine hv_eqst (st' := [.int (zI (zB (decide (0 ≤ a ∧ a < g 0)))), .ref m9]) rfl ?_
  refine hv_weq (ws' := [(nw, .inl (dA 0, 12, .inl (fun i => zI (g i)))), (m9, .inr (7, [.int (zI (rf)), .ref xt, .int (zI (sz)), .ref nw, .ref tr, .ref di, .int (zI (ac)), .ref ke, .ref ik, .ref wt, .int (zI (ld)), .int (zI (sp)), .int (zI (ou))])), (wt, .inl (dA 0, 4096, .inl (fun i => zI (wv i))))]) (rfl) ?_
  refine hv_srt [1, 0, 0] (ws' := [(m9, .inr (7, [.int (zI (rf)), .ref xt, .int (zI (sz)), .ref nw, .ref tr, .ref di, .int (zI (ac)), .ref ke, .ref ik, .ref wt, .int (zI (ld)), .int (zI (sp)), .int (zI (ou))])), (nw, .inl (dA 0, 12, .inl (fun i => zI (g i)))), (wt, .inl (dA 0, 4096, .inl (fun i => zI (wv i))))]) rfl ?_
  refine hv_if_eq C dX9_ifClipped_9 (tgt := 23) (by decide) zB_0 (fun hc9 => ?_) (fun hc9 => ?_)
  · refine hv_iconst C dX9_ifClipped_23 (v := zI (1)) rfl ?_
    refine hv_goto C dX9_ifClipped_24 (tgt := 58) (by decide) ?_
    refine hv_callV (As := [.int (zI (1))]) (rest := []) (wc := [(m9, .inr (7, [.int (zI (rf)), .ref xt, .int (zI (sz)), .ref nw, .ref tr, .ref di, .int (zI (ac)), .ref ke, .ref ik, .ref wt, .int (zI (ld)), .int (zI (sp)), .int (zI (ou))]))]) (wr := [(nw, .inl (dA 0, 12, .inl (fun i => zI (g i)))), (wt, .inl (dA 0, 4096, .inl (fun i => zI (wv i))))]) C (k_X9_refused l D dA m9 xt nw tr di ke ik wt (rf) (sz) (ac) (ld) (sp) (ou) 1 (by omega)) (cwV 1 C.1.2.2.2.2 (hw_V tw_m_RX9_122 tw_i_X9_refused tw_s_X9_refused tw_n_RX9 tw_k_X9_refused) rfl rfl rfl (by decide +kernel) ⟨Nat.le_of_ble_eq_true rfl, Nat.le_of_ble_eq_true rfl⟩) (hv_pm [0] rfl) rfl 0 7 rfl rfl rfl (Nat.le_of_ble_eq_true rfl) dX9_ifClipped_58 ⟨Nat.le_of_ble_eq_true rfl, Nat.le_of_ble_eq_true rfl⟩ (fun _ _ => ?_)
    have e9 : xc_ifc g a b k v = some hx_IOE := by unfold xc_ifc; exact xc_or_s (mz_req1 (by omega))
    have e8 : mz_k2 hx_IOE (xc_ifc g a b k v) = 1 := by rw [e9]; exact mz_k2a
    refine hv_eqst (st' := [.int (zI (zB (decide ((0 : Int) < 1))))]) rfl ?_
    refine hv_weq (ws' := [(m9, .inr (7, [.int (zI (1)), .ref xt, .int (zI (sz)), .ref nw, .ref tr, .ref di, .int (zI (ac)), .ref ke, .ref ik, .ref wt, .int (zI (ld)), .int (zI (sp)), .int (zI (ou))])), (nw, .inl (dA 0, 12, .inl (fun i => zI (g i)))), (wt, .inl (dA 0, 4096, .inl (fun i => zI (wv i))))]) (rfl) ?_
    refine hv_if_eq C dX9_ifClipped_61 (tgt := 66) (by decide) zB_0 (fun hc61 => ?_) (fun hc61 => ?_)
    · exact absurd hc61 (by omega)
    · refine hv_iconst C dX9_ifClipped_64 (v := zI (0)) rfl ?_
      exact hv_iret C M dX9_ifClipped_65 rfl rfl (ld, wv) hl (by rw [e9]; rfl) [] (List.Perm.of_eq (by rw [e8]; rfl)) (Nat.le_refl _) (Nat.le_refl _)
  · refine hv_aload_n C dX9_ifClipped_12 0 rfl ?_
    refine hv_get C dX9_ifClipped_13 (fun w h => hw_c (tw_u_9 w h)) 0 (ci := 7) rfl rfl 3 (by decide) (hw_c tw_f_RX9_13) rfl ?_
    refine hv_iload_n C dX9_ifClipped_16 2 rfl ?_
    refine hv_callS (As := [.ref nw, .int (zI (b))]) (rest := [.ref m9]) (wc := [(nw, .inl (dA 0, 12, .inl (fun i => zI (g i))))]) (wr := [(m9, .inr (7, [.int (zI (rf)), .ref xt, .int (zI (sz)), .ref nw, .ref tr, .ref di, .int (zI (ac)), .ref ke, .ref ik, .ref wt, .int (zI (ld)), .int (zI (sp)), .int (zI (ou))])), (wt, .inl (dA 0, 4096, .inl (fun i => zI (wv i))))]) C (k_X9_isStem l D dA nw g (by omega) (b) (by omega)) (va_cwS 2 C.1.2.2.2.2 (hw_S tw_m_RX9_53 tw_t_X9_isStem tw_n_RX9 tw_k_X9_isStem) rfl rfl rfl (by decide +kernel) ⟨Nat.le_of_ble_eq_true rfl, Nat.le_of_ble_eq_true rfl⟩) (hv_pm [1] rfl) rfl rfl (Nat.le_of_ble_eq_true rfl) dX9_ifClipped_17 ⟨Nat.le_of_ble_eq_true rfl, Nat.le_of_ble_eq_true rfl⟩ (fun _ _ => ?_)
    refine hv_eqst (st' := [.int (zI (zB (decide (0 ≤ b ∧ b < g 0)))), .ref m9]) rfl ?_
    refine hv_weq (ws' := [(nw, .inl (dA 0, 12, .inl (fun i => zI (g i)))), (m9, .inr (7, [.int (zI (rf)), .ref xt, .int (zI (sz)), .ref nw, .ref tr, .ref di, .int (zI (ac)), .ref ke, .ref ik, .ref wt, .int (zI (ld)), .int (zI (sp)), .int (zI (ou))])), (wt, .inl (dA 0, 4096, .inl (fun i => zI (wv i))))]) (rfl) ?_
    refine hv_srt [1, 0, 0] (ws' := [(m9, .inr (7, [.int (zI (rf)), .ref xt, .int (zI (sz)), .ref nw, .ref tr, .ref di, .int (zI (ac)), .ref ke, .ref ik, .ref wt, .int (zI (ld)), .int (zI (sp)), .int (zI (ou))])), (nw, .inl (dA 0, 12, .inl (fun i => zI (g i)))), (wt, .inl (dA 0, 4096, .inl (fun i => zI (wv i))))]) rfl ?_
    refine hv_if_ne C dX9_ifClipped_20 (tgt := 27) (by decide) zB_n0 (fun hc20 => ?_) (fun hc20 => ?_)
    · refine hv_aload_n C dX9_ifClipped_27 0 rfl ?_
      refine hv_get C dX9_ifClipped_28 (fun w h => hw_c (tw_u_9 w h)) 0 (ci := 7) rfl rfl 3 (by decide) (hw_c tw_f_RX9_13) rfl ?_
      refine hv_iload_n C dX9_ifClipped_31 1 rfl ?_
      refine hv_iload_n C dX9_ifClipped_32 2 rfl ?_
      refine hv_iload_n C dX9_ifClipped_33 3 rfl ?_
      refine hv_callS (As := [.ref nw, .int (zI (a)), .int (zI (b)), .int (zI (k))]) (rest := [.ref m9]) (wc := [(nw, .inl (dA 0, 12, .inl (fun i => zI (g i))))]) (wr := [(m9, .inr (7, [.int (zI (rf)), .ref xt, .int (zI (sz)), .ref nw, .ref tr, .ref di, .int (zI (ac)), .ref ke, .ref ik, .ref wt, .int (zI (ld)), .int (zI (sp)), .int (zI (ou))])), (wt, .inl (dA 0, 4096, .inl (fun i => zI (wv i))))]) C (k_X9_isClip l D dA nw g (by omega) a b k (by omega) (by omega) (by omega)) (va_cwS 4 C.1.2.2.2.2 (hw_S tw_m_RX9_57 tw_t_X9_isClip tw_n_RX9 tw_k_X9_isClip) rfl rfl rfl (by decide +kernel) ⟨Nat.le_of_ble_eq_true rfl, Nat.le_of_ble_eq_true rfl⟩) (hv_pm [1] rfl) rfl rfl (Nat.le_of_ble_eq_true rfl) dX9_ifClipped_34 ⟨Nat.le_of_ble_eq_true rfl, Nat.le_of_ble_eq_true rfl⟩ (fun _ _ => ?_)
      refine hv_eqst (st' := [.int (zI (zB (decide (1 ≤ k ∧ k ≤ 3 ∧ a ≤ b ∧ b - a < g 5)))), .ref m9]) rfl ?_
      refine hv_weq (ws' := [(nw, .inl (dA 0, 12, .inl (fun i => zI (g i)))), (m9, .inr (7, [.int (zI (rf)), .ref xt, .int (zI (sz)), .ref nw, .ref tr, .ref di, .int (zI (ac)), .ref ke, .ref ik, .ref wt, .int (zI (ld)), .int (zI (sp)), .int (zI (ou))])), (wt, .inl (dA 0, 4096, .inl (fun i => zI (wv i))))]) (rfl) ?_
      refine hv_srt [1, 0, 0] (ws' := [(m9, .inr (7, [.int (zI (rf)), .ref xt, .int (zI (sz)), .ref nw, .ref tr, .ref di, .int (zI (ac)), .ref ke, .ref ik, .ref wt, .int (zI (ld)), .int (zI (sp)), .int (zI (ou))])), (nw, .inl (dA 0, 12, .inl (fun i => zI (g i)))), (wt, .inl (dA 0, 4096, .inl (fun i => zI (wv i))))]) rfl ?_
      refine hv_if_eq C dX9_ifClipped_37 (tgt := 57) (by decide) zB_0 (fun hc37 => ?_) (fun hc37 => ?_)
      · refine hv_iconst C dX9_ifClipped_57 (v := zI (2)) rfl ?_
        refine hv_callV (As := [.int (zI (2))]) (rest := []) (wc := [(m9, .inr (7, [.int (zI (rf)), .ref xt, .int (zI (sz)), .ref nw, .ref tr, .ref di, .int (zI (ac)), .ref ke, .ref ik, .ref wt, .int (zI (ld)), .int (zI (sp)), .int (zI (ou))]))]) (wr := [(nw, .inl (dA 0, 12, .inl (fun i => zI (g i)))), (wt, .inl (dA 0, 4096, .inl (fun i => zI (wv i))))]) C (k_X9_refused l D dA m9 xt nw tr di ke ik wt (rf) (sz) (ac) (ld) (sp) (ou) 2 (by omega)) (cwV 1 C.1.2.2.2.2 (hw_V tw_m_RX9_122 tw_i_X9_refused tw_s_X9_refused tw_n_RX9 tw_k_X9_refused) rfl rfl rfl (by decide +kernel) ⟨Nat.le_of_ble_eq_true rfl, Nat.le_of_ble_eq_true rfl⟩) (hv_pm [0] rfl) rfl 0 7 rfl rfl rfl (Nat.le_of_ble_eq_true rfl) dX9_ifClipped_58 ⟨Nat.le_of_ble_eq_true rfl, Nat.le_of_ble_eq_true rfl⟩ (fun _ _ => ?_)
        have e9 : xc_ifc g a b k v = some hx_IAE := by unfold xc_ifc; by_cases q : 1 ≤ k ∧ k ≤ 3 ∧ a ≤ b ∧ b - a < g 5; (rw [xc_or_n (mz_req0 (by omega) q), if_neg (by omega)]); exact xc_or_s (mz_req2 (by omega) q)
        have e8 : mz_k2 hx_IOE (xc_ifc g a b k v) = 2 := by rw [e9]; exact (mz_k2b hx_13)
        refine hv_eqst (st' := [.int (zI (zB (decide ((0 : Int) < 2))))]) rfl ?_
        refine hv_weq (ws' := [(m9, .inr (7, [.int (zI (2)), .ref xt, .int (zI (sz)), .ref nw, .ref tr, .ref di, .int (zI (ac)), .ref ke, .ref ik, .ref wt, .int (zI (ld)), .int (zI (sp)), .int (zI (ou))])), (nw, .inl (dA 0, 12, .inl (fun i => zI (g i)))), (wt, .inl (dA 0, 4096, .inl (fun i => zI (wv i))))]) (rfl) ?_
        refine hv_if_eq C dX9_ifClipped_61 (tgt := 66) (by decide) zB_0 (fun hc61 => ?_) (fun hc61 => ?_)
        · exact absurd hc61 (by omega)
        · refine hv_iconst C dX9_ifClipped_64 (v := zI (0)) rfl ?_
          exact hv_iret C M dX9_ifClipped_65 rfl rfl (ld, wv) hl (by rw [e9]; rfl) [] (List.Perm.of_eq (by rw [e8]; rfl)) (Nat.le_refl _) (Nat.le_refl _)
      · refine hv_iload C dX9_ifClipped_40 4 rfl ?_
        refine hv_i2l C dX9_ifClipped_42 (v := (zL (v))) (by exact zL_i (by omega)) ?_
        refine hv_lconst C dX9_ifClipped_43 (v := 0) rfl ?_
        refine hv_ldc2 C dX9_ifClipped_44 (hw_c tw_o_RX9_51) ?_
        refine hv_eqst (st' := [.long (zL (3)), .long (zL (0)), .long (zL (v)), .ref m9]) (by rfl) ?_
        refine hv_callS (As := [.long (zL (v)), .long (zL (0)), .long (zL (3))]) (rest := [.ref m9]) (wc := []) (wr := [(m9, .inr (7, [.int (zI (rf)), .ref xt, .int (zI (sz)), .ref nw, .ref tr, .ref di, .int (zI (ac)), .ref ke, .ref ik, .ref wt, .int (zI (ld)), .int (zI (sp)), .int (zI (ou))])), (nw, .inl (dA 0, 12, .inl (fun i => zI (g i)))), (wt, .inl (dA 0, 4096, .inl (fun i => zI (wv i))))]) C (k_X9_in l D dA (v) (by omega) (0) (by omega) (3) (by omega)) (va_cwS 3 C.1.2.2.2.2 (hw_S tw_m_RX9_43 tw_t_X9_in tw_n_RX9 tw_k_X9_in) rfl rfl rfl (by decide +kernel) ⟨Nat.le_of_ble_eq_true rfl, Nat.le_of_ble_eq_true rfl⟩) (hv_pm [] rfl) rfl rfl (Nat.le_of_ble_eq_true rfl) dX9_ifClipped_47 ⟨Nat.le_of_ble_eq_true rfl, Nat.le_of_ble_eq_true rfl⟩ (fun _ _ => ?_)
        refine hv_eqst (st' := [.int (zI (zB (decide (0 ≤ v ∧ v ≤ 3)))), .ref m9]) rfl ?_
        refine hv_weq (ws' := [(m9, .inr (7, [.int (zI (rf)), .ref xt, .int (zI (sz)), .ref nw, .ref tr, .ref di, .int (zI (ac)), .ref ke, .ref ik, .ref wt, .int (zI (ld)), .int (zI (sp)), .int (zI (ou))])), (nw, .inl (dA 0, 12, .inl (fun i => zI (g i)))), (wt, .inl (dA 0, 4096, .inl (fun i => zI (wv i))))]) (rfl) ?_
        refine hv_if_eq C dX9_ifClipped_50 (tgt := 57) (by decide) zB_0 (fun hc50 => ?_) (fun hc50 => ?_)
        · refine hv_iconst C dX9_ifClipped_57 (v := zI (2)) rfl ?_
          refine hv_callV (As := [.int (zI (2))]) (rest := []) (wc := [(m9, .inr (7, [.int (zI (rf)), .ref xt, .int (zI (sz)), .ref nw, .ref tr, .ref di, .int (zI (ac)), .ref ke, .ref ik, .ref wt, .int (zI (ld)), .int (zI (sp)), .int (zI (ou))]))]) (wr := [(nw, .inl (dA 0, 12, .inl (fun i => zI (g i)))), (wt, .inl (dA 0, 4096, .inl (fun i => zI (wv i))))]) C (k_X9_refused l D dA m9 xt nw tr di ke ik wt (rf) (sz) (ac) (ld) (sp) (ou) 2 (by omega)) (cwV 1 C.1.2.2.2.2 (hw_V tw_m_RX9_122 tw_i_X9_refused tw_s_X9_refused tw_n_RX9 tw_k_X9_refused) rfl rfl rfl (by decide +kernel) ⟨Nat.le_of_ble_eq_true rfl, Nat.le_of_ble_eq_true rfl⟩) (hv_pm [0] rfl) rfl 0 7 rfl rfl rfl (Nat.le_of_ble_eq_true rfl) dX9_ifClipped_58 ⟨Nat.le_of_ble_eq_true rfl, Nat.le_of_ble_eq_true rfl⟩ (fun _ _ => ?_)
          have e9 : xc_ifc g a b k v = some hx_IAE := by unfold xc_ifc; by_cases q : 1 ≤ k ∧ k ≤ 3 ∧ a ≤ b ∧ b - a < g 5; (rw [xc_or_n (mz_req0 (by omega) q), if_neg (by omega)]); exact xc_or_s (mz_req2 (by omega) q)
          have e8 : mz_k2 hx_IOE (xc_ifc g a b k v) = 2 := by rw [e9]; exact (mz_k2b hx_13)
          refine hv_eqst (st' := [.int (zI (zB (decide ((0 : Int) < 2))))]) rfl ?_
          refine hv_weq (ws' := [(m9, .inr (7, [.int (zI (2)), .ref xt, .int (zI (sz)), .ref nw, .ref tr, .ref di, .int (zI (ac)), .ref ke, .ref ik, .ref wt, .int (zI (ld)), .int (zI (sp)), .int (zI (ou))])), (nw, .inl (dA 0, 12, .inl (fun i => zI (g i)))), (wt, .inl (dA 0, 4096, .inl (fun i => zI (wv i))))]) (rfl) ?_
          refine hv_if_eq C dX9_ifClipped_61 (tgt := 66) (by decide) zB_0 (fun hc61 => ?_) (fun hc61 => ?_)
          · exact absurd hc61 (by omega)
          · refine hv_iconst C dX9_ifClipped_64 (v := zI (0)) rfl ?_
            exact hv_iret C M dX9_ifClipped_65 rfl rfl (ld, wv) hl (by rw [e9]; rfl) [] (List.Perm.of_eq (by rw [e8]; rfl)) (Nat.le_refl _) (Nat.le_refl _)
        · refine hv_iconst C dX9_ifClipped_53 (v := zI (0)) rfl ?_
          refine hv_goto C dX9_ifClipped_54 (tgt := 58) (by decide) ?_
          refine hv_callV (As := [.int (zI (0))]) (rest := []) (wc := [(m9, .inr (7, [.int (zI (rf)), .ref xt, .int (zI (sz)), .ref nw, .ref tr, .ref di, .int (zI (ac)), .ref ke, .ref ik, .ref wt, .int (zI (ld)), .int (zI (sp)), .int (zI (ou))]))]) (wr := [(nw, .inl (dA 0, 12, .inl (fun i => zI (g i)))), (wt, .inl (dA 0, 4096, .inl (fun i => zI (wv i))))]) C (k_X9_refused l D dA m9 xt nw tr di ke ik wt (rf) (sz) (ac) (ld) (sp) (ou) 0 (by omega)) (cwV 1 C.1.2.2.2.2 (hw_V tw_m_RX9_122 tw_i_X9_refused tw_s_X9_refused tw_n_RX9 tw_k_X9_refused) rfl rfl rfl (by decide +kernel) ⟨Nat.le_of_ble_eq_true rfl, Nat.le_of_ble_eq_true rfl⟩) (hv_pm [0] rfl) rfl 0 7 rfl rfl rfl (Nat.le_of_ble_eq_true rfl) dX9_ifClipped_58 ⟨Nat.le_of_ble_eq_true rfl, Nat.le_of_ble_eq_true rfl⟩ (fun _ _ => ?_)
          have e9 : xc_ifc g a b k v = none := by unfold xc_ifc; rw [xc_or_n (mz_req0 (by omega) (by omega)), if_pos (by omega)]
          have e8 : mz_k2 hx_IOE (xc_ifc g a b k v) = 0 := by rw [e9]; exact mz_k2n
          refine hv_eqst (st' := [.int (zI (zB (decide ((0 : Int) < 0))))]) rfl ?_
          refine hv_weq (ws' := [(m9, .inr (7, [.int (zI (0)), .ref xt, .int (zI (sz)), .ref nw, .ref tr, .ref di, .int (zI (ac)), .ref ke, .ref ik, .ref wt, .int (zI (ld)), .int (zI (sp)), .int (zI (ou))])), (nw, .inl (dA 0, 12, .inl (fun i => zI (g i)))), (wt, .inl (dA 0, 4096, .inl (fun i => zI (wv i))))]) (rfl) ?_
          refine hv_if_eq C dX9_ifClipped_61 (tgt := 66) (by decide) zB_0 (fun hc61 => ?_) (fun hc61 => ?_)
          · refine hv_aload_n C dX9_ifClipped_66 0 rfl ?_
            refine hv_get C dX9_ifClipped_67 (fun w h => hw_c (tw_u_9 w h)) 0 (ci := 7) rfl rfl 3 (by decide) (hw_c tw_f_RX9_13) rfl ?_
            refine hv_aload_n C dX9_ifClipped_70 0 rfl ?_
            refine hv_get C dX9_ifClipped_71 (fun w h => hw_c (tw_u_9 w h)) 0 (ci := 7) rfl rfl 3 (by decide) (hw_c tw_f_RX9_13) rfl ?_
            refine hv_iconst C dX9_ifClipped_74 (v := zI (1)) rfl ?_
            refine hv_iald C dX9_ifClipped_75 1 rfl (1) (rfl) (by omega) (by omega) (v := (zI (g 1))) rfl ?_
            refine hv_iload_n C dX9_ifClipped_76 1 rfl ?_
            refine hv_iload_n C dX9_ifClipped_77 2 rfl ?_
            refine hv_iload_n C dX9_ifClipped_78 3 rfl ?_
            refine hv_callS (As := [.ref nw, .int (zI (g 1)), .int (zI (a)), .int (zI (b)), .int (zI (k))]) (rest := []) (wc := [(nw, .inl (dA 0, 12, .inl (fun i => zI (g i))))]) (wr := [(m9, .inr (7, [.int (zI (0)), .ref xt, .int (zI (sz)), .ref nw, .ref tr, .ref di, .int (zI (ac)), .ref ke, .ref ik, .ref wt, .int (zI (ld)), .int (zI (sp)), .int (zI (ou))])), (wt, .inl (dA 0, 4096, .inl (fun i => zI (wv i))))]) C (k_X9_canClip l D dA nw g hg (gH g) hg.e1 hgx a (by omega) b (by omega) k (by omega)) (va_cwS 5 C.1.2.2.2.2 (hw_S tw_m_RX9_80 tw_t_X9_canClip tw_n_RX9 tw_k_X9_canClip) rfl rfl rfl (by decide +kernel) ⟨Nat.le_of_ble_eq_true rfl, Nat.le_of_ble_eq_true rfl⟩) (hv_pm [1] rfl) rfl rfl (Nat.le_of_ble_eq_true rfl) dX9_ifClipped_79 ⟨Nat.le_of_ble_eq_true rfl, Nat.le_of_ble_eq_true rfl⟩ (fun _ _ => ?_)
            refine hv_eqst (st' := [.int (zI (zB (sp_ca (gS g) (gR g) (gH g) a b k)))]) rfl ?_
            refine hv_weq (ws' := [(nw, .inl (dA 0, 12, .inl (fun i => zI (g i)))), (m9, .inr (7, [.int (zI (0)), .ref xt, .int (zI (sz)), .ref nw, .ref tr, .ref di, .int (zI (ac)), .ref ke, .ref ik, .ref wt, .int (zI (ld)), .int (zI (sp)), .int (zI (ou))])), (wt, .inl (dA 0, 4096, .inl (fun i => zI (wv i))))]) (rfl) ?_
            refine hv_srt [1, 0, 0] (ws' := [(m9, .inr (7, [.int (zI (0)), .ref xt, .int (zI (sz)), .ref nw, .ref tr, .ref di, .int (zI (ac)), .ref ke, .ref ik, .ref wt, .int (zI (ld)), .int (zI (sp)), .int (zI (ou))])), (nw, .inl (dA 0, 12, .inl (fun i => zI (g i)))), (wt, .inl (dA 0, 4096, .inl (fun i => zI (wv i))))]) rfl ?_
            refine hv_if_ne C dX9_ifClipped_82 (tgt := 87) (by decide) zB_en (fun hc82 => ?_) (fun hc82 => ?_)
            · have hcn := (mz_can_iff hg (by omega) (by omega)).mp hc82
              refine hv_aload_n C dX9_ifClipped_87 0 rfl ?_
              refine hv_get C dX9_ifClipped_88 (fun w h => hw_c (tw_u_9 w h)) 0 (ci := 7) rfl rfl 3 (by decide) (hw_c tw_f_RX9_13) rfl ?_
              refine hv_iconst C dX9_ifClipped_91 (v := zI (1)) rfl ?_
              refine hv_iald C dX9_ifClipped_92 1 rfl (1) (rfl) (by omega) (by omega) (v := (zI (g 1))) rfl ?_
              refine hv_iload_n C dX9_ifClipped_93 1 rfl ?_
              refine hv_iload_n C dX9_ifClipped_94 2 rfl ?_
              refine hv_iload_n C dX9_ifClipped_95 3 rfl ?_
              refine hv_callS (As := [.int (zI (g 1)), .int (zI (a)), .int (zI (b)), .int (zI (k))]) (rest := []) (wc := []) (wr := [(m9, .inr (7, [.int (zI (0)), .ref xt, .int (zI (sz)), .ref nw, .ref tr, .ref di, .int (zI (ac)), .ref ke, .ref ik, .ref wt, .int (zI (ld)), .int (zI (sp)), .int (zI (ou))])), (nw, .inl (dA 0, 12, .inl (fun i => zI (g i)))), (wt, .inl (dA 0, 4096, .inl (fun i => zI (wv i))))]) C (k_X9_cut l D dA (gH g) a.toNat b.toNat k.toNat hg.e1 (by omega) (by omega) (by omega) (by omega) (by omega) (by omega) (by omega)) (va_cwS 4 C.1.2.2.2.2 (hw_S tw_m_RX9_61 tw_t_X9_cut tw_n_RX9 tw_k_X9_cut) rfl rfl rfl (by decide +kernel) ⟨Nat.le_of_ble_eq_true rfl, Nat.le_of_ble_eq_true rfl⟩) (hv_pm [] rfl) rfl rfl (Nat.le_of_ble_eq_true rfl) dX9_ifClipped_96 ⟨Nat.le_of_ble_eq_true rfl, Nat.le_of_ble_eq_true rfl⟩ (fun _ _ => ?_)
              refine hv_eqst (st' := [.int (zI ((sp_cc (gH g) (100 * a.toNat + 10 * b.toNat + k.toNat) : Int)))]) rfl ?_
              refine hv_weq (ws' := [(m9, .inr (7, [.int (zI (0)), .ref xt, .int (zI (sz)), .ref nw, .ref tr, .ref di, .int (zI (ac)), .ref ke, .ref ik, .ref wt, .int (zI (ld)), .int (zI (sp)), .int (zI (ou))])), (nw, .inl (dA 0, 12, .inl (fun i => zI (g i)))), (wt, .inl (dA 0, 4096, .inl (fun i => zI (wv i))))]) (rfl) ?_
              refine hv_topi (y := zI (((sp_cc (gH g) (100 * a + 10 * b + k).toNat) : Nat) : Int)) (by rw [show 100 * a.toNat + 10 * b.toNat + k.toNat = (100 * a + 10 * b + k).toNat by omega]) ?_
              refine hv_istore C dX9_ifClipped_99 (lw := [(5, .int (zI (((sp_cc (gH g) (100 * a + 10 * b + k).toNat) : Int)))), (0, .ref m9), (1, .int (zI (a))), (2, .int (zI (b))), (3, .int (zI (k))), (4, .int (zI (v)))]) (by decide) rfl ?_
              refine hv_aload_n C dX9_ifClipped_101 1 rfl ?_
              refine hv_get C dX9_ifClipped_102 (fun w h => hw_c (tw_u_9 w h)) 0 (ci := 7) rfl rfl 3 (by decide) (hw_c tw_f_RX9_13) rfl ?_
              refine hv_iload C dX9_ifClipped_105 0 rfl ?_
              refine hv_callS (As := [.ref nw, .int (zI (((sp_cc (gH g) (100 * a + 10 * b + k).toNat) : Int)))]) (rest := []) (wc := [(nw, .inl (dA 0, 12, .inl (fun i => zI (g i))))]) (wr := [(m9, .inr (7, [.int (zI (0)), .ref xt, .int (zI (sz)), .ref nw, .ref tr, .ref di, .int (zI (ac)), .ref ke, .ref ik, .ref wt, .int (zI (ld)), .int (zI (sp)), .int (zI (ou))])), (wt, .inl (dA 0, 4096, .inl (fun i => zI (wv i))))]) C (k_X9_blown l D dA nw g hg (sp_cc (gH g) (100 * a + 10 * b + k).toNat) rfl (Nat.lt_of_le_of_lt (sp_cc_le _ _) hg.H)) (va_cwS 2 C.1.2.2.2.2 (hw_S tw_m_RX9_65 tw_t_X9_blown tw_n_RX9 tw_k_X9_blown) rfl rfl rfl (by decide +kernel) ⟨Nat.le_of_ble_eq_true rfl, Nat.le_of_ble_eq_true rfl⟩) (hv_pm [1] rfl) rfl rfl (Nat.le_of_ble_eq_true rfl) dX9_ifClipped_107 ⟨Nat.le_of_ble_eq_true rfl, Nat.le_of_ble_eq_true rfl⟩ (fun _ _ => ?_)
              refine hv_eqst (st' := [.int (zI (((sp_bh (gS g) (gW g) (gH g) (100 * a + 10 * b + k).toNat) : Int)))]) rfl ?_
              refine hv_weq (ws' := [(nw, .inl (dA 0, 12, .inl (fun i => zI (g i)))), (m9, .inr (7, [.int (zI (0)), .ref xt, .int (zI (sz)), .ref nw, .ref tr, .ref di, .int (zI (ac)), .ref ke, .ref ik, .ref wt, .int (zI (ld)), .int (zI (sp)), .int (zI (ou))])), (wt, .inl (dA 0, 4096, .inl (fun i => zI (wv i))))]) (rfl) ?_
              refine hv_srt [1, 0, 0] (ws' := [(m9, .inr (7, [.int (zI (0)), .ref xt, .int (zI (sz)), .ref nw, .ref tr, .ref di, .int (zI (ac)), .ref ke, .ref ik, .ref wt, .int (zI (ld)), .int (zI (sp)), .int (zI (ou))])), (nw, .inl (dA 0, 12, .inl (fun i => zI (g i)))), (wt, .inl (dA 0, 4096, .inl (fun i => zI (wv i))))]) rfl ?_
              refine hv_istore C dX9_ifClipped_110 (lw := [(6, .int (zI (((sp_bh (gS g) (gW g) (gH g) (100 * a + 10 * b + k).toNat) : Int)))), (5, .int (zI (((sp_cc (gH g) (100 * a + 10 * b + k).toNat) : Int)))), (0, .ref m9), (1, .int (zI (a))), (2, .int (zI (b))), (3, .int (zI (k))), (4, .int (zI (v)))]) (by decide) rfl ?_
              refine hv_aload_n C dX9_ifClipped_112 2 rfl ?_
              refine hv_aload_n C dX9_ifClipped_113 2 rfl ?_
              refine hv_get C dX9_ifClipped_114 (fun w h => hw_c (tw_u_9 w h)) 0 (ci := 7) rfl rfl 3 (by decide) (hw_c tw_f_RX9_13) rfl ?_
              refine hv_callV (As := [.ref nw]) (rest := []) (wc := [(m9, .inr (7, [.int (zI (0)), .ref xt, .int (zI (sz)), .ref nw, .ref tr, .ref di, .int (zI (ac)), .ref ke, .ref ik, .ref wt, .int (zI (ld)), .int (zI (sp)), .int (zI (ou))])), (nw, .inl (dA 0, 12, .inl (fun i => zI (g i)))), (wt, .inl (dA 0, 4096, .inl (fun i => zI (wv i))))]) (wr := []) C (k_X9_layWorths l D dA m9 xt nw tr di ke ik wt 0 sz ac ld sp ou nw g hg wv hl) (cwV 1 C.1.2.2.2.2 (hw_V tw_m_RX9_98 tw_i_X9_layWorths tw_s_X9_layWorths tw_n_RX9 tw_k_X9_layWorths) rfl rfl rfl (by decide +kernel) ⟨Nat.le_of_ble_eq_true rfl, Nat.le_of_ble_eq_true rfl⟩) (hv_pm [0, 0, 0] rfl) rfl 0 7 rfl rfl rfl (Nat.le_of_ble_eq_true rfl) dX9_ifClipped_117 ⟨Nat.le_of_ble_eq_true rfl, Nat.le_of_ble_eq_true rfl⟩ (fun u7 hu7 => ?_)
              refine hv_eqst (st' := []) rfl ?_
              refine hv_weq (ws' := [(m9, .inr (7, [.int (zI (0)), .ref xt, .int (zI (sz)), .ref nw, .ref tr, .ref di, .int (zI (ac)), .ref ke, .ref ik, .ref wt, .int (zI (mz_key g)), .int (zI (sp)), .int (zI (ou))])), (nw, .inl (dA 0, 12, .inl (fun i => zI (g i)))), (wt, .inl (dA 0, 4096, .inl (fun i => zI (u7 i))))]) (rfl) ?_
              refine hv_iload C dX9_ifClipped_120 6 rfl ?_
              refine hv_if_ne C dX9_ifClipped_122 (tgt := 143) (by decide) (zI_ne0 (by omega)) (fun hc122 => ?_) (fun hc122 => ?_)
              · refine hv_iload C dX9_ifClipped_143 6 rfl ?_
                refine hv_iconst C dX9_ifClipped_145 (v := zI (1)) rfl ?_
                refine hv_icmp_ne C dX9_ifClipped_146 (tgt := 154) (by decide) (zI_ne (by omega)) (fun hc146 => ?_) (fun hc146 => ?_)
                · refine hv_iload C dX9_ifClipped_154 6 rfl ?_
                  refine hv_iconst C dX9_ifClipped_156 (v := zI (2)) rfl ?_
                  refine hv_icmp_ne C dX9_ifClipped_157 (tgt := 173) (by decide) (zI_ne (by omega)) (fun hc157 => ?_) (fun hc157 => ?_)
                  · refine hv_iload C dX9_ifClipped_173 1 rfl ?_
                    refine hv_callS (As := [.int (zI (((sp_cc (gH g) (100 * a + 10 * b + k).toNat) : Int)))]) (rest := []) (wc := []) (wr := [(m9, .inr (7, [.int (zI (0)), .ref xt, .int (zI (sz)), .ref nw, .ref tr, .ref di, .int (zI (ac)), .ref ke, .ref ik, .ref wt, .int (zI (mz_key g)), .int (zI (sp)), .int (zI (ou))])), (nw, .inl (dA 0, 12, .inl (fun i => zI (g i)))), (wt, .inl (dA 0, 4096, .inl (fun i => zI (u7 i))))]) C (k_X9_count l D dA (sp_cc (gH g) (100 * a + 10 * b + k).toNat) rfl (Nat.lt_of_le_of_lt (sp_cc_le _ _) hgx)) (va_cwS 1 C.1.2.2.2.2 (hw_S tw_m_RX9_101 tw_t_X9_count tw_n_RX9 tw_k_X9_count) rfl rfl rfl (by decide +kernel) ⟨Nat.le_of_ble_eq_true rfl, Nat.le_of_ble_eq_true rfl⟩) (hv_pm [] rfl) rfl rfl (Nat.le_of_ble_eq_true rfl) dX9_ifClipped_175 ⟨Nat.le_of_ble_eq_true rfl, Nat.le_of_ble_eq_true rfl⟩ (fun _ _ => ?_)
                    refine hv_eqst (st' := [.int (zI ((sp_lv (sp_cc (gH g) (100 * a + 10 * b + k).toNat) : Int)))]) rfl ?_
                    refine hv_weq (ws' := [(m9, .inr (7, [.int (zI (0)), .ref xt, .int (zI (sz)), .ref nw, .ref tr, .ref di, .int (zI (ac)), .ref ke, .ref ik, .ref wt, .int (zI (mz_key g)), .int (zI (sp)), .int (zI (ou))])), (nw, .inl (dA 0, 12, .inl (fun i => zI (g i)))), (wt, .inl (dA 0, 4096, .inl (fun i => zI (u7 i))))]) (rfl) ?_
                    refine hv_iload C dX9_ifClipped_178 0 rfl ?_
                    refine hv_callS (As := [.int (zI (((sp_bh (gS g) (gW g) (gH g) (100 * a + 10 * b + k).toNat) : Int)))]) (rest := [.int (zI ((sp_lv (sp_cc (gH g) (100 * a + 10 * b + k).toNat) : Int)))]) (wc := []) (wr := [(m9, .inr (7, [.int (zI (0)), .ref xt, .int (zI (sz)), .ref nw, .ref tr, .ref di, .int (zI (ac)), .ref ke, .ref ik, .ref wt, .int (zI (mz_key g)), .int (zI (sp)), .int (zI (ou))])), (nw, .inl (dA 0, 12, .inl (fun i => zI (g i)))), (wt, .inl (dA 0, 4096, .inl (fun i => zI (u7 i))))]) C (k_X9_count l D dA (sp_bh (gS g) (gW g) (gH g) (100 * a + 10 * b + k).toNat) rfl (Nat.lt_of_le_of_lt (sp_bh_le _ _ _ _) hgx)) (va_cwS 1 C.1.2.2.2.2 (hw_S tw_m_RX9_101 tw_t_X9_count tw_n_RX9 tw_k_X9_count) rfl rfl rfl (by decide +kernel) ⟨Nat.le_of_ble_eq_true rfl, Nat.le_of_ble_eq_true rfl⟩) (hv_pm [] rfl) rfl rfl (Nat.le_of_ble_eq_true rfl) dX9_ifClipped_180 ⟨Nat.le_of_ble_eq_true rfl, Nat.le_of_ble_eq_true rfl⟩ (fun _ _ => ?_)
                    refine hv_eqst (st' := [.int (zI ((sp_lv (sp_bh (gS g) (gW g) (gH g) (100 * a + 10 * b + k).toNat) : Int))), .int (zI ((sp_lv (sp_cc (gH g) (100 * a + 10 * b + k).toNat) : Int)))]) rfl ?_
                    refine hv_weq (ws' := [(m9, .inr (7, [.int (zI (0)), .ref xt, .int (zI (sz)), .ref nw, .ref tr, .ref di, .int (zI (ac)), .ref ke, .ref ik, .ref wt, .int (zI (mz_key g)), .int (zI (sp)), .int (zI (ou))])), (nw, .inl (dA 0, 12, .inl (fun i => zI (g i)))), (wt, .inl (dA 0, 4096, .inl (fun i => zI (u7 i))))]) (rfl) ?_
                    refine hv_isub C dX9_ifClipped_183 (zI_sub _ _) ?_
                    exact hv_iret C M dX9_ifClipped_184 rfl rfl (mz_key g, u7) (mz_LW_new hg hu7) (by rw [e9]; show some (Value.int (zI (xa_ifc g a b k v))) = _; unfold xa_ifc; rw [if_neg hcn, if_neg (by omega), if_neg (by omega), if_neg (by omega)]) [] (List.Perm.of_eq (by rw [e8]; rfl)) (Nat.le_refl _) (Nat.le_refl _)
                  · refine hv_bipush C dX9_ifClipped_160 (v := zI (100)) (by decide +kernel) ?_
                    refine hv_aload_n C dX9_ifClipped_162 2 rfl ?_
                    refine hv_get C dX9_ifClipped_163 (fun w h => hw_c (tw_u_9 w h)) 0 (ci := 7) rfl rfl 9 (by decide) (hw_c tw_f_RX9_29) rfl ?_
                    refine hv_iload C dX9_ifClipped_166 0 rfl ?_
                    refine hv_iald C dX9_ifClipped_168 2 rfl ((sp_bh (gS g) (gW g) (gH g) (100 * a + 10 * b + k).toNat)) (zI_nat _) (by have hbl := Nat.lt_of_le_of_lt (sp_bh_le (gS g) (gW g) (gH g) (100 * a + 10 * b + k).toNat) hgx; omega) (by omega) (v := (zI (u7 (sp_bh (gS g) (gW g) (gH g) (100 * a + 10 * b + k).toNat)))) rfl ?_
                    refine hv_iadd C dX9_ifClipped_169 (zI_add _ _) ?_
                    refine hv_goto C dX9_ifClipped_170 (tgt := 184) (by decide) ?_
                    exact hv_iret C M dX9_ifClipped_184 rfl rfl (mz_key g, u7) (mz_LW_new hg hu7) (by rw [e9]; show some (Value.int (zI (xa_ifc g a b k v))) = _; unfold xa_ifc; rw [if_neg hcn, if_neg (by omega), if_neg (by omega), if_pos (by omega)]; rw [hu7 _ (Nat.lt_of_le_of_lt (sp_bh_le _ _ _ _) hg.H)]) [] (List.Perm.of_eq (by rw [e8]; rfl)) (Nat.le_refl _) (Nat.le_refl _)
                · refine hv_iload C dX9_ifClipped_149 0 rfl ?_
                  refine hv_goto C dX9_ifClipped_151 (tgt := 184) (by decide) ?_
                  exact hv_iret C M dX9_ifClipped_184 rfl rfl (mz_key g, u7) (mz_LW_new hg hu7) (by rw [e9]; show some (Value.int (zI (xa_ifc g a b k v))) = _; unfold xa_ifc; rw [if_neg hcn, if_neg (by omega), if_pos (by omega)]) [] (List.Perm.of_eq (by rw [e8]; rfl)) (Nat.le_refl _) (Nat.le_refl _)
              · refine hv_aload_n C dX9_ifClipped_125 2 rfl ?_
                refine hv_get C dX9_ifClipped_126 (fun w h => hw_c (tw_u_9 w h)) 0 (ci := 7) rfl rfl 3 (by decide) (hw_c tw_f_RX9_13) rfl ?_
                refine hv_aload_n C dX9_ifClipped_129 2 rfl ?_
                refine hv_get C dX9_ifClipped_130 (fun w h => hw_c (tw_u_9 w h)) 0 (ci := 7) rfl rfl 3 (by decide) (hw_c tw_f_RX9_13) rfl ?_
                refine hv_iconst C dX9_ifClipped_133 (v := zI (1)) rfl ?_
                refine hv_iald C dX9_ifClipped_134 1 rfl (1) (rfl) (by omega) (by omega) (v := (zI (g 1))) rfl ?_
                refine hv_iload C dX9_ifClipped_135 0 rfl ?_
                refine hv_callS (As := [.ref nw, .int (zI (g 1)), .int (zI (((sp_bh (gS g) (gW g) (gH g) (100 * a + 10 * b + k).toNat) : Int)))]) (rest := []) (wc := [(nw, .inl (dA 0, 12, .inl (fun i => zI (g i))))]) (wr := [(m9, .inr (7, [.int (zI (0)), .ref xt, .int (zI (sz)), .ref nw, .ref tr, .ref di, .int (zI (ac)), .ref ke, .ref ik, .ref wt, .int (zI (mz_key g)), .int (zI (sp)), .int (zI (ou))])), (wt, .inl (dA 0, 4096, .inl (fun i => zI (u7 i))))]) C (k_X9_brings l D dA nw g hg (gH g) (sp_bh (gS g) (gW g) (gH g) (100 * a + 10 * b + k).toNat) hg.e1 rfl hg.H (Nat.lt_of_le_of_lt (sp_bh_le _ _ _ _) hg.H)) (va_cwS 3 C.1.2.2.2.2 (hw_S tw_m_RX9_76 tw_t_X9_brings tw_n_RX9 tw_k_X9_brings) rfl rfl rfl (by decide +kernel) ⟨Nat.le_of_ble_eq_true rfl, Nat.le_of_ble_eq_true rfl⟩) (hv_pm [1] rfl) rfl rfl (Nat.le_of_ble_eq_true rfl) dX9_ifClipped_137 ⟨Nat.le_of_ble_eq_true rfl, Nat.le_of_ble_eq_true rfl⟩ (fun _ _ => ?_)
                refine hv_eqst (st' := [.int (zI (sp_fi g (gH g) (sp_bh (gS g) (gW g) (gH g) (100 * a + 10 * b + k).toNat)))]) rfl ?_
                refine hv_weq (ws' := [(nw, .inl (dA 0, 12, .inl (fun i => zI (g i)))), (m9, .inr (7, [.int (zI (0)), .ref xt, .int (zI (sz)), .ref nw, .ref tr, .ref di, .int (zI (ac)), .ref ke, .ref ik, .ref wt, .int (zI (mz_key g)), .int (zI (sp)), .int (zI (ou))])), (wt, .inl (dA 0, 4096, .inl (fun i => zI (u7 i))))]) (rfl) ?_
                refine hv_srt [1, 0, 0] (ws' := [(m9, .inr (7, [.int (zI (0)), .ref xt, .int (zI (sz)), .ref nw, .ref tr, .ref di, .int (zI (ac)), .ref ke, .ref ik, .ref wt, .int (zI (mz_key g)), .int (zI (sp)), .int (zI (ou))])), (nw, .inl (dA 0, 12, .inl (fun i => zI (g i)))), (wt, .inl (dA 0, 4096, .inl (fun i => zI (u7 i))))]) rfl ?_
                refine hv_goto C dX9_ifClipped_140 (tgt := 184) (by decide) ?_
                exact hv_iret C M dX9_ifClipped_184 rfl rfl (mz_key g, u7) (mz_LW_new hg hu7) (by rw [e9]; show some (Value.int (zI (xa_ifc g a b k v))) = _; unfold xa_ifc; rw [if_neg hcn, if_pos (by omega)]; rfl) [] (List.Perm.of_eq (by rw [e8]; rfl)) (Nat.le_refl _) (Nat.le_refl _)
            · have hcn : sp_cc (gH g) (100 * a.toNat + 10 * b.toNat + 3) = gH g := Decidable.not_not.mp (fun q => hc82 ((mz_can_iff hg (by omega) (by omega)).mpr q))
              refine hv_iconst C dX9_ifClipped_85 (v := zI (-1)) rfl ?_
              exact hv_iret C M dX9_ifClipped_86 rfl rfl (ld, wv) hl (by rw [e9]; show some (Value.int (zI (xa_ifc g a b k v))) = _; unfold xa_ifc; rw [if_pos hcn]) [] (List.Perm.of_eq (by rw [e8]; rfl)) (Nat.le_refl _) (Nat.le_refl _)
          · exact absurd hc61 (by omega)
    · refine hv_iconst C dX9_ifClipped_23 (v := zI (1)) rfl ?_
      refine hv_goto C dX9_ifClipped_24 (tgt := 58) (by decide) ?_
      refine hv_callV (As := [.int (zI (1))]) (rest := []) (wc := [(m9, .inr (7, [.int (zI (rf)), .ref xt, .int (zI (sz)), .ref nw, .ref tr, .ref di, .int (zI (ac)), .ref ke, .ref ik, .ref wt, .int (zI (ld)), .int (zI (sp)), .int (zI (ou))]))]) (wr := [(nw, .inl (dA 0, 12, .inl (fun i => zI (g i)))), (wt, .inl (dA 0, 4096, .inl (fun i => zI (wv i))))]) C (k_X9_refused l D dA m9 xt nw tr di ke ik wt (rf) (sz) (ac) (ld) (sp) (ou) 1 (by omega)) (cwV 1 C.1.2.2.2.2 (hw_V tw_m_RX9_122 tw_i_X9_refused tw_s_X9_refused tw_n_RX9 tw_k_X9_refused) rfl rfl rfl (by decide +kernel) ⟨Nat.le_of_ble_eq_true rfl, Nat.le_of_ble_eq_true rfl⟩) (hv_pm [0] rfl) rfl 0 7 rfl rfl rfl (Nat.le_of_ble_eq_true rfl) dX9_ifClipped_58 ⟨Nat.le_of_ble_eq_true rfl, Nat.le_of_ble_eq_true rfl⟩ (fun _ _ => ?_)
      have e9 : xc_ifc g a b k v = some hx_IOE := by unfold xc_ifc; exact xc_or_s (mz_req1 (by omega))
      have e8 : mz_k2 hx_IOE (xc_ifc g a b k v) = 1 := by rw [e9]; exact mz_k2a
      refine hv_eqst (st' := [.int (zI (zB (decide ((0 : Int) < 1))))]) rfl ?_
      refine hv_weq (ws' := [(m9, .inr (7, [.int (zI (1)), .ref xt, .int (zI (sz)), .ref nw, .ref tr, .ref di, .int (zI (ac)), .ref ke, .ref ik, .ref wt, .int (zI (ld)), .int (zI (sp)), .int (zI (ou))])), (nw, .inl (dA 0, 12, .inl (fun i => zI (g i)))), (wt, .inl (dA 0, 4096, .inl (fun i => zI (wv i))))]) (rfl) ?_
      refine hv_if_eq C dX9_ifClipped_61 (tgt := 66) (by decide) zB_0 (fun hc61 => ?_) (fun hc61 => ?_)
      · exact absurd hc61 (by omega)
      · refine hv_iconst C dX9_ifClipped_64 (v := zI (0)) rfl ?_
        exact hv_iret C M dX9_ifClipped_65 rfl rfl (ld, wv) hl (by rw [e9]; rfl) [] (List.Perm.of_eq (by rw [e8]; rfl)) (Nat.le_refl _) (Nat.le_refl _)

theorem mz_fst_0 {S w r : Nat} : wo_fst S w r 0 = none := by
  unfold wo_fst
  rw [List.find?_eq_none]
  intro x _
  have e : sp_cc 0 x = 0 := Nat.le_zero.mp (sp_cc_le 0 x)
  unfold wo_isb wo_gain
  rw [if_pos e, wo_0]
  decide
theorem mz_fst_p {S w r h : Nat} (hS : 2 ≤ S ∧ S ≤ 6) (hr : 1 ≤ r ∧ r ≤ 3) (hh : h < 4 ^ S) (h0 : 0 < h) : ∃ c, wo_fst S w r h = some c := by
  have h6 := wo_6 (w := w) hS hr hh
  rcases wo_fold_is (S := S) (w := w) (h := h) (f := wo S w r) (wo_cls S r) (-100) with e | ⟨c, hc, e⟩
  · rw [← wo_eq h0] at e
    omega
  · rw [← wo_eq h0] at e
    have hs : ((wo_cls S r).find? (wo_isb S w r h)).isSome = true := List.find?_isSome.mpr ⟨c, hc, decide_eq_true e.symm⟩
    exact Option.isSome_iff_exists.mp hs
/-- the garden goes on: what bestOn makes of a copy, seen from the first garden -/
def mz_go (g t : Nat → Int) : Prop := WF t ∧ gS t = gS g ∧ gW t = gW g ∧ gR t = gR g
theorem mz_go_0 {g : Nat → Int} (h : WF g) : mz_go g g := ⟨h, rfl, rfl, rfl⟩
theorem mz_go_f {g t : Nat → Int} (h : mz_go g t) (e : ox_isb t = false) : gH t = 0 := by
  rcases Nat.eq_zero_or_pos (gH t) with q | q
  · exact q
  · obtain ⟨c, hc⟩ := mz_fst_p (w := gW t) h.1.S h.1.R h.1.H q
    rw [ox_isb_s (c := c) hc] at e
    exact Bool.noConfusion e
theorem mz_go_t {g t : Nat → Int} (h : mz_go g t) (e : ox_isb t = true) : ¬ gH t = 0 ∧ mz_go g (ox_tb t) ∧ gH (ox_tb t) = wo_next (gS g) (gW g) (gR g) (gH t) := by
  obtain ⟨hw, e1, e2, e3⟩ := h
  cases ef : ox_fst t with
  | none => rw [ox_isb_n ef] at e; exact Bool.noConfusion e
  | some c =>
    have e9 : wo_fst (gS g) (gW g) (gR g) (gH t) = some c := by rw [← e1, ← e2, ← e3]; exact ef
    refine ⟨fun z => ?_, ⟨WF_tb hw, ?_⟩, ?_⟩
    · rw [z, mz_fst_0] at e9
      exact absurd e9 (by simp)
    · rw [ox_tb_s ef]
      exact ⟨e1, e2, e3⟩
    · rw [ox_tb_s ef]
      unfold wo_next
      rw [e9, ← e1, ← e2]
      exact Int.toNat_natCast _

set_option maxHeartbeats 4000000 in
set_option maxRecDepth 100000 in
theorem k_X9_goesOn (l : Launch) (D : va_G) (dA : Nat → ClassId) (m9 xt nw tr di ke ik wt : Nat) (rf sz ac ld sp ou : Int) (g : Nat → Int) (hg : WF g) (t : Nat → Int) (wv : Nat → Int) (hl : mz_LW ld wv) (a : Int) (ha : -2147483648 ≤ a ∧ a < 2147483648) (b : Int) (hb : -2147483648 ≤ b ∧ b < 2147483648) : hv_Ct l yX9_goesOn (hw_W yX9_goesOn cX9_goesOn 4 (some .int)) 10 D dA [.ref m9, .int (zI (a)), .int (zI (b))] ([(m9, .inr (7, [.int (zI (rf)), .ref xt, .int (zI (sz)), .ref nw, .ref tr, .ref di, .int (zI (ac)), .ref ke, .ref ik, .ref wt, .int (zI (ld)), .int (zI (sp)), .int (zI (ou))])), (nw, .inl (dA 0, 12, .inl (fun i => zI (g i)))), (tr, .inl (dA 0, 12, .inl (fun i => zI (t i)))), (wt, .inl (dA 0, 4096, .inl (fun i => zI (wv i))))]) 0 0 (S := (Nat → Int) × Int × (Nat → Int)) (fun _ => mz_w (xc_go a b) (some (.int (zI ((if b = 0 then ((ox_go g a.toNat (gH g) 0).1 : Int) else ((ox_go g a.toNat (gH g) 0).2 : Int)))))) (some (.int (zI 0)))) (fun u => mz_LW u.2.1 u.2.2) (fun u => [(m9, .inr (7, [.int (zI (mz_k1 (xc_go a b))), .ref xt, .int (zI (sz)), .ref nw, .ref tr, .ref di, .int (zI (ac)), .ref ke, .ref ik, .ref wt, .int (zI (u.2.1)), .int (zI (sp)), .int (zI (ou))])), (nw, .inl (dA 0, 12, .inl (fun i => zI (g i)))), (tr, .inl (dA 0, 12, .inl (fun i => zI (u.1 i)))), (wt, .inl (dA 0, 4096, .inl (fun i => zI (u.2.2 i))))]) := by
  have hg0 := hg.1
  have hg1 := hg.e1
  have hgx := hg.x
  have hg5 := hg.2.2.2.2.2
  have hgR := hg.R
  have hgS := hg.S
  have hge0 := hg.e0
  have hge5 := hg.e5
  refine hv_of (cc := cX9_goesOn) (maxL := 4) (ret := (some .int)) (own := RX9) rfl (by decide) rfl (Nat.le_of_ble_eq_true rfl) ?_
  intro p e s m args below meth c C M
  refine hv_lveq (lv' := [(0, .ref m9), (1, .int (zI (a))), (2, .int (zI (b)))]) rfl ?_
  refine hv_aload_n C dX9_goesOn_0 0 rfl ?_
  refine hv_iload_n C dX9_goesOn_1 1 rfl ?_
  refine hv_i2l C dX9_goesOn_2 (v := (zL (a))) (by exact zL_i (by omega)) ?_
  refine hv_lconst C dX9_goesOn_3 (v := 1) rfl ?_
  refine hv_ldc2 C dX9_goesOn_4 (hw_c tw_o_RX9_182) ?_
  refine hv_eqst (st' := [.long (zL (18)), .long (zL (1)), .long (zL (a)), .ref m9]) (by rfl) ?_
  refine hv_callS (As := [.long (zL (a)), .long (zL (1)), .long (zL (18))]) (rest := [.ref m9]) (wc := []) (wr := [(m9, .inr (7, [.int (zI (rf)), .ref xt, .int (zI (sz)), .ref nw, .ref tr, .ref di, .int (zI (ac)), .ref ke, .ref ik, .ref wt, .int (zI (ld)), .int (zI (sp)), .int (zI (ou))])), (nw, .inl (dA 0, 12, .inl (fun i => zI (g i)))), (tr, .inl (dA 0, 12, .inl (fun i => zI (t i)))), (wt, .inl (dA 0, 4096, .inl (fun i => zI (wv i))))]) C (k_X9_in l D dA (a) (by omega) (1) (by omega) (18) (by omega)) (va_cwS 3 C.1.2.2.2.2 (hw_S tw_m_RX9_43 tw_t_X9_in tw_n_RX9 tw_k_X9_in) rfl rfl rfl (by decide +kernel) ⟨Nat.le_of_ble_eq_true rfl, Nat.le_of_ble_eq_true rfl⟩) (hv_pm [] rfl) rfl rfl (Nat.le_of_ble_eq_true rfl) dX9_goesOn_7 ⟨Nat.le_of_ble_eq_true rfl, Nat.le_of_ble_eq_true rfl⟩ (fun _ _ => ?_)
  refine hv_eqst (st' := [.int (zI (zB (decide (1 ≤ a ∧ a ≤ 18)))), .ref m9]) rfl ?_
  refine hv_weq (ws' := [(m9, .inr (7, [.int (zI (rf)), .ref xt, .int (zI (sz)), .ref nw, .ref tr, .ref di, .int (zI (ac)), .ref ke, .ref ik, .ref wt, .int (zI (ld)), .int (zI (sp)), .int (zI (ou))])), (nw, .inl (dA 0, 12, .inl (fun i => zI (g i)))), (tr, .inl (dA 0, 12, .inl (fun i => zI (t i)))), (wt, .inl (dA 0, 4096, .inl (fun i => zI (wv i))))]) (rfl) ?_
  refine hv_if_eq C dX9_goesOn_10 (tgt := 27) (by decide) zB_0 (fun hc10 => ?_) (fun hc10 => ?_)
  · refine hv_iconst C dX9_goesOn_27 (v := zI (1)) rfl ?_
    refine hv_callV (As := [.int (zI (1))]) (rest := []) (wc := [(m9, .inr (7, [.int (zI (rf)), .ref xt, .int (zI (sz)), .ref nw, .ref tr, .ref di, .int (zI (ac)), .ref ke, .ref ik, .ref wt, .int (zI (ld)), .int (zI (sp)), .int (zI (ou))]))]) (wr := [(nw, .inl (dA 0, 12, .inl (fun i => zI (g i)))), (tr, .inl (dA 0, 12, .inl (fun i => zI (t i)))), (wt, .inl (dA 0, 4096, .inl (fun i => zI (wv i))))]) C (k_X9_refused l D dA m9 xt nw tr di ke ik wt (rf) (sz) (ac) (ld) (sp) (ou) 1 (by omega)) (cwV 1 C.1.2.2.2.2 (hw_V tw_m_RX9_122 tw_i_X9_refused tw_s_X9_refused tw_n_RX9 tw_k_X9_refused) rfl rfl rfl (by decide +kernel) ⟨Nat.le_of_ble_eq_true rfl, Nat.le_of_ble_eq_true rfl⟩) (hv_pm [0] rfl) rfl 0 7 rfl rfl rfl (Nat.le_of_ble_eq_true rfl) dX9_goesOn_28 ⟨Nat.le_of_ble_eq_true rfl, Nat.le_of_ble_eq_true rfl⟩ (fun _ _ => ?_)
    have e9 : xc_go a b = some hx_IAE := by unfold xc_go; (repeat' split) <;> first | rfl | (exfalso; omega)
    have e8 : mz_k1 (xc_go a b) = 1 := by rw [e9]; exact mz_k1s
    refine hv_eqst (st' := [.int (zI (zB (decide ((0 : Int) < 1))))]) rfl ?_
    refine hv_weq (ws' := [(m9, .inr (7, [.int (zI (1)), .ref xt, .int (zI (sz)), .ref nw, .ref tr, .ref di, .int (zI (ac)), .ref ke, .ref ik, .ref wt, .int (zI (ld)), .int (zI (sp)), .int (zI (ou))])), (nw, .inl (dA 0, 12, .inl (fun i => zI (g i)))), (tr, .inl (dA 0, 12, .inl (fun i => zI (t i)))), (wt, .inl (dA 0, 4096, .inl (fun i => zI (wv i))))]) (rfl) ?_
    refine hv_if_eq C dX9_goesOn_31 (tgt := 36) (by decide) zB_0 (fun hc31 => ?_) (fun hc31 => ?_)
    · exact absurd hc31 (by omega)
    · refine hv_iconst C dX9_goesOn_34 (v := zI (0)) rfl ?_
      exact hv_iret C M dX9_goesOn_35 rfl rfl (t, ld, wv) hl (by rw [e9]; rfl) [] (List.Perm.of_eq (by rw [e8]; rfl)) (Nat.le_refl _) (Nat.le_refl _)
  · refine hv_iload_n C dX9_goesOn_13 2 rfl ?_
    refine hv_i2l C dX9_goesOn_14 (v := (zL (b))) (by exact zL_i (by omega)) ?_
    refine hv_lconst C dX9_goesOn_15 (v := 0) rfl ?_
    refine hv_lconst C dX9_goesOn_16 (v := 1) rfl ?_
    refine hv_eqst (st' := [.long (zL (1)), .long (zL (0)), .long (zL (b)), .ref m9]) (by rfl) ?_
    refine hv_callS (As := [.long (zL (b)), .long (zL (0)), .long (zL (1))]) (rest := [.ref m9]) (wc := []) (wr := [(m9, .inr (7, [.int (zI (rf)), .ref xt, .int (zI (sz)), .ref nw, .ref tr, .ref di, .int (zI (ac)), .ref ke, .ref ik, .ref wt, .int (zI (ld)), .int (zI (sp)), .int (zI (ou))])), (nw, .inl (dA 0, 12, .inl (fun i => zI (g i)))), (tr, .inl (dA 0, 12, .inl (fun i => zI (t i)))), (wt, .inl (dA 0, 4096, .inl (fun i => zI (wv i))))]) C (k_X9_in l D dA (b) (by omega) (0) (by omega) (1) (by omega)) (va_cwS 3 C.1.2.2.2.2 (hw_S tw_m_RX9_43 tw_t_X9_in tw_n_RX9 tw_k_X9_in) rfl rfl rfl (by decide +kernel) ⟨Nat.le_of_ble_eq_true rfl, Nat.le_of_ble_eq_true rfl⟩) (hv_pm [] rfl) rfl rfl (Nat.le_of_ble_eq_true rfl) dX9_goesOn_17 ⟨Nat.le_of_ble_eq_true rfl, Nat.le_of_ble_eq_true rfl⟩ (fun _ _ => ?_)
    refine hv_eqst (st' := [.int (zI (zB (decide (0 ≤ b ∧ b ≤ 1)))), .ref m9]) rfl ?_
    refine hv_weq (ws' := [(m9, .inr (7, [.int (zI (rf)), .ref xt, .int (zI (sz)), .ref nw, .ref tr, .ref di, .int (zI (ac)), .ref ke, .ref ik, .ref wt, .int (zI (ld)), .int (zI (sp)), .int (zI (ou))])), (nw, .inl (dA 0, 12, .inl (fun i => zI (g i)))), (tr, .inl (dA 0, 12, .inl (fun i => zI (t i)))), (wt, .inl (dA 0, 4096, .inl (fun i => zI (wv i))))]) (rfl) ?_
    refine hv_if_eq C dX9_goesOn_20 (tgt := 27) (by decide) zB_0 (fun hc20 => ?_) (fun hc20 => ?_)
    · refine hv_iconst C dX9_goesOn_27 (v := zI (1)) rfl ?_
      refine hv_callV (As := [.int (zI (1))]) (rest := []) (wc := [(m9, .inr (7, [.int (zI (rf)), .ref xt, .int (zI (sz)), .ref nw, .ref tr, .ref di, .int (zI (ac)), .ref ke, .ref ik, .ref wt, .int (zI (ld)), .int (zI (sp)), .int (zI (ou))]))]) (wr := [(nw, .inl (dA 0, 12, .inl (fun i => zI (g i)))), (tr, .inl (dA 0, 12, .inl (fun i => zI (t i)))), (wt, .inl (dA 0, 4096, .inl (fun i => zI (wv i))))]) C (k_X9_refused l D dA m9 xt nw tr di ke ik wt (rf) (sz) (ac) (ld) (sp) (ou) 1 (by omega)) (cwV 1 C.1.2.2.2.2 (hw_V tw_m_RX9_122 tw_i_X9_refused tw_s_X9_refused tw_n_RX9 tw_k_X9_refused) rfl rfl rfl (by decide +kernel) ⟨Nat.le_of_ble_eq_true rfl, Nat.le_of_ble_eq_true rfl⟩) (hv_pm [0] rfl) rfl 0 7 rfl rfl rfl (Nat.le_of_ble_eq_true rfl) dX9_goesOn_28 ⟨Nat.le_of_ble_eq_true rfl, Nat.le_of_ble_eq_true rfl⟩ (fun _ _ => ?_)
      have e9 : xc_go a b = some hx_IAE := by unfold xc_go; (repeat' split) <;> first | rfl | (exfalso; omega)
      have e8 : mz_k1 (xc_go a b) = 1 := by rw [e9]; exact mz_k1s
      refine hv_eqst (st' := [.int (zI (zB (decide ((0 : Int) < 1))))]) rfl ?_
      refine hv_weq (ws' := [(m9, .inr (7, [.int (zI (1)), .ref xt, .int (zI (sz)), .ref nw, .ref tr, .ref di, .int (zI (ac)), .ref ke, .ref ik, .ref wt, .int (zI (ld)), .int (zI (sp)), .int (zI (ou))])), (nw, .inl (dA 0, 12, .inl (fun i => zI (g i)))), (tr, .inl (dA 0, 12, .inl (fun i => zI (t i)))), (wt, .inl (dA 0, 4096, .inl (fun i => zI (wv i))))]) (rfl) ?_
      refine hv_if_eq C dX9_goesOn_31 (tgt := 36) (by decide) zB_0 (fun hc31 => ?_) (fun hc31 => ?_)
      · exact absurd hc31 (by omega)
      · refine hv_iconst C dX9_goesOn_34 (v := zI (0)) rfl ?_
        exact hv_iret C M dX9_goesOn_35 rfl rfl (t, ld, wv) hl (by rw [e9]; rfl) [] (List.Perm.of_eq (by rw [e8]; rfl)) (Nat.le_refl _) (Nat.le_refl _)
    · refine hv_iconst C dX9_goesOn_23 (v := zI (0)) rfl ?_
      refine hv_goto C dX9_goesOn_24 (tgt := 28) (by decide) ?_
      refine hv_callV (As := [.int (zI (0))]) (rest := []) (wc := [(m9, .inr (7, [.int (zI (rf)), .ref xt, .int (zI (sz)), .ref nw, .ref tr, .ref di, .int (zI (ac)), .ref ke, .ref ik, .ref wt, .int (zI (ld)), .int (zI (sp)), .int (zI (ou))]))]) (wr := [(nw, .inl (dA 0, 12, .inl (fun i => zI (g i)))), (tr, .inl (dA 0, 12, .inl (fun i => zI (t i)))), (wt, .inl (dA 0, 4096, .inl (fun i => zI (wv i))))]) C (k_X9_refused l D dA m9 xt nw tr di ke ik wt (rf) (sz) (ac) (ld) (sp) (ou) 0 (by omega)) (cwV 1 C.1.2.2.2.2 (hw_V tw_m_RX9_122 tw_i_X9_refused tw_s_X9_refused tw_n_RX9 tw_k_X9_refused) rfl rfl rfl (by decide +kernel) ⟨Nat.le_of_ble_eq_true rfl, Nat.le_of_ble_eq_true rfl⟩) (hv_pm [0] rfl) rfl 0 7 rfl rfl rfl (Nat.le_of_ble_eq_true rfl) dX9_goesOn_28 ⟨Nat.le_of_ble_eq_true rfl, Nat.le_of_ble_eq_true rfl⟩ (fun _ _ => ?_)
      have e9 : xc_go a b = none := by unfold xc_go; (repeat' split) <;> first | rfl | (exfalso; omega)
      have e8 : mz_k1 (xc_go a b) = 0 := by rw [e9]; exact mz_k1n
      refine hv_eqst (st' := [.int (zI (zB (decide ((0 : Int) < 0))))]) rfl ?_
      refine hv_weq (ws' := [(m9, .inr (7, [.int (zI (0)), .ref xt, .int (zI (sz)), .ref nw, .ref tr, .ref di, .int (zI (ac)), .ref ke, .ref ik, .ref wt, .int (zI (ld)), .int (zI (sp)), .int (zI (ou))])), (nw, .inl (dA 0, 12, .inl (fun i => zI (g i)))), (tr, .inl (dA 0, 12, .inl (fun i => zI (t i)))), (wt, .inl (dA 0, 4096, .inl (fun i => zI (wv i))))]) (rfl) ?_
      refine hv_if_eq C dX9_goesOn_31 (tgt := 36) (by decide) zB_0 (fun hc31 => ?_) (fun hc31 => ?_)
      · refine hv_aload_n C dX9_goesOn_36 0 rfl ?_
        refine hv_get C dX9_goesOn_37 (fun w h => hw_c (tw_u_9 w h)) 0 (ci := 7) rfl rfl 3 (by decide) (hw_c tw_f_RX9_13) rfl ?_
        refine hv_iconst C dX9_goesOn_40 (v := zI (0)) rfl ?_
        refine hv_aload_n C dX9_goesOn_41 0 rfl ?_
        refine hv_get C dX9_goesOn_42 (fun w h => hw_c (tw_u_9 w h)) 0 (ci := 7) rfl rfl 4 (by decide) (hw_c tw_f_RX9_16) rfl ?_
        refine hv_iconst C dX9_goesOn_45 (v := zI (0)) rfl ?_
        refine hv_callS (As := [.ref nw, .int (zI (0)), .ref tr, .int (zI (0))]) (rest := []) (wc := [(nw, .inl (dA 0, 12, .inl (fun i => zI (g i)))), (tr, .inl (dA 0, 12, .inl (fun i => zI (t i))))]) (wr := [(m9, .inr (7, [.int (zI (0)), .ref xt, .int (zI (sz)), .ref nw, .ref tr, .ref di, .int (zI (ac)), .ref ke, .ref ik, .ref wt, .int (zI (ld)), .int (zI (sp)), .int (zI (ou))])), (wt, .inl (dA 0, 4096, .inl (fun i => zI (wv i))))]) C (k_X9_copyState l D dA nw tr 12 12 g t 0 0 rfl rfl (by omega) (by omega) (by omega) (by omega)) (va_cwS 4 C.1.2.2.2.2 (hw_S tw_m_RX9_162 tw_t_X9_copyState tw_n_RX9 tw_k_X9_copyState) rfl rfl rfl (by decide +kernel) ⟨Nat.le_of_ble_eq_true rfl, Nat.le_of_ble_eq_true rfl⟩) (hv_pm [1, 1] rfl) rfl rfl (Nat.le_of_ble_eq_true rfl) dX9_goesOn_46 ⟨Nat.le_of_ble_eq_true rfl, Nat.le_of_ble_eq_true rfl⟩ (fun _ _ => ?_)
        refine hv_eqst (st' := []) rfl ?_
        refine hv_weq (ws' := [(nw, .inl (dA 0, 12, .inl (fun i => zI (g i)))), (tr, .inl (dA 0, 12, .inl (fun i => zI ((mz_c t g 0 0 12) i)))), (m9, .inr (7, [.int (zI (0)), .ref xt, .int (zI (sz)), .ref nw, .ref tr, .ref di, .int (zI (ac)), .ref ke, .ref ik, .ref wt, .int (zI (ld)), .int (zI (sp)), .int (zI (ou))])), (wt, .inl (dA 0, 4096, .inl (fun i => zI (wv i))))]) (rfl) ?_
        refine hv_srt [2, 0, 0, 0] (ws' := [(m9, .inr (7, [.int (zI (0)), .ref xt, .int (zI (sz)), .ref nw, .ref tr, .ref di, .int (zI (ac)), .ref ke, .ref ik, .ref wt, .int (zI (ld)), .int (zI (sp)), .int (zI (ou))])), (nw, .inl (dA 0, 12, .inl (fun i => zI (g i)))), (tr, .inl (dA 0, 12, .inl (fun i => zI ((mz_c t g 0 0 12) i)))), (wt, .inl (dA 0, 4096, .inl (fun i => zI (wv i))))]) rfl ?_
        refine hv_acg 2 (f' := fun i => zI (g i)) rfl (fun i hi => ?_) rfl ?_
        · exact congrArg zI ((by rw [mz_c_eq, if_pos (by omega)]; congr 1; omega))
        refine hv_iconst C dX9_goesOn_49 (v := zI (0)) rfl ?_
        refine hv_istore_n C dX9_goesOn_50 (lw := [(3, .int (zI (0))), (0, .ref m9), (1, .int (zI (a))), (2, .int (zI (b)))]) (by decide) rfl ?_
        refine hv_loop (σ := Nat × (Nat → Int) × Int × (Nat → Int)) (fun n9 x => x.1 + n9 = a.toNat ∧ mz_go g x.2.1 ∧ mz_LW x.2.2.1 x.2.2.2 ∧ ox_go g n9 (gH x.2.1) x.1 = ox_go g a.toNat (gH g) 0) (fun x => [(m9, .inr (7, [.int (zI (0)), .ref xt, .int (zI (sz)), .ref nw, .ref tr, .ref di, .int (zI (ac)), .ref ke, .ref ik, .ref wt, .int (zI (x.2.2.1)), .int (zI (sp)), .int (zI (ou))])), (nw, .inl (dA 0, 12, .inl (fun i => zI (g i)))), (tr, .inl (dA 0, 12, .inl (fun i => zI (x.2.1 i)))), (wt, .inl (dA 0, 4096, .inl (fun i => zI (x.2.2.2 i))))]) (fun x => [(3, .int (zI ((x.1 : Int)))), (0, .ref m9), (1, .int (zI (a))), (2, .int (zI (b)))]) (fun x => []) (fun _ => 0) (fun _ => 0) (a.toNat) ((0, g, ld, wv)) (⟨Nat.zero_add _, mz_go_0 hg, hl, rfl⟩) (⟨rfl, rfl, rfl, rfl, rfl⟩) (fun n9 x hI ih => ?_)
        obtain ⟨i, t5, ld5, wv5⟩ := x
        dsimp only at hI ⊢
        obtain ⟨hi1, ht5, hl5, hgo5⟩ := hI
        refine hv_iload_n C dX9_goesOn_51 0 rfl ?_
        refine hv_iload_n C dX9_goesOn_52 2 rfl ?_
        refine hv_icmp_ge C dX9_goesOn_53 (tgt := 73) (by decide) (zI_le (by omega)) (fun hc53 => ?_) (fun hc53 => ?_)
        · have hfin : ox_go g n9 (gH t5) i = (gH t5, i) := by obtain rfl : n9 = 0 := (by omega); rfl
          have hte : t5 1 = (gH t5 : Int) := ht5.1.e1
          refine hv_iload_n C dX9_goesOn_73 3 rfl ?_
          refine hv_if_ne C dX9_goesOn_74 (tgt := 86) (by decide) (zI_ne0 (by omega)) (fun hc74 => ?_) (fun hc74 => ?_)
          · refine hv_iload_n C dX9_goesOn_86 0 rfl ?_
            exact hv_iret C M dX9_goesOn_87 rfl rfl (t5, ld5, wv5) hl5 (by rw [e9]; exact hv_rv (by rw [if_neg (by omega), ← hgo5, hfin])) [] (List.Perm.of_eq (by rw [e8]; rfl)) (Nat.le_refl _) (Nat.le_refl _)
          · refine hv_aload_n C dX9_goesOn_77 1 rfl ?_
            refine hv_get C dX9_goesOn_78 (fun w h => hw_c (tw_u_9 w h)) 0 (ci := 7) rfl rfl 4 (by decide) (hw_c tw_f_RX9_16) rfl ?_
            refine hv_iconst C dX9_goesOn_81 (v := zI (1)) rfl ?_
            refine hv_iald C dX9_goesOn_82 2 rfl (1) (rfl) (by omega) (by omega) (v := (zI ((gH t5 : Int)))) (by rw [hte]) ?_
            refine hv_goto C dX9_goesOn_83 (tgt := 87) (by decide) ?_
            exact hv_iret C M dX9_goesOn_87 rfl rfl (t5, ld5, wv5) hl5 (by rw [e9]; exact hv_rv (by rw [if_pos (by omega), ← hgo5, hfin])) [] (List.Perm.of_eq (by rw [e8]; rfl)) (Nat.le_refl _) (Nat.le_refl _)
        · refine hv_aload_n C dX9_goesOn_56 1 rfl ?_
          refine hv_aload_n C dX9_goesOn_57 1 rfl ?_
          refine hv_get C dX9_goesOn_58 (fun w h => hw_c (tw_u_9 w h)) 0 (ci := 7) rfl rfl 4 (by decide) (hw_c tw_f_RX9_16) rfl ?_
          refine hv_callV (As := [.ref tr]) (rest := []) (wc := [(m9, .inr (7, [.int (zI (0)), .ref xt, .int (zI (sz)), .ref nw, .ref tr, .ref di, .int (zI (ac)), .ref ke, .ref ik, .ref wt, .int (zI (ld5)), .int (zI (sp)), .int (zI (ou))])), (tr, .inl (dA 0, 12, .inl (fun i => zI (t5 i)))), (wt, .inl (dA 0, 4096, .inl (fun i => zI (wv5 i))))]) (wr := [(nw, .inl (dA 0, 12, .inl (fun i => zI (g i))))]) C (k_X9_bestOn l D dA m9 xt nw tr di ke ik wt 0 sz ac ld5 sp ou tr t5 ht5.1 wv5 hl5) (cwV 1 C.1.2.2.2.2 (hw_V tw_m_RX9_152 tw_i_X9_bestOn tw_s_X9_bestOn tw_n_RX9 tw_k_X9_bestOn) rfl rfl rfl (by decide +kernel) ⟨Nat.le_of_ble_eq_true rfl, Nat.le_of_ble_eq_true rfl⟩) (hv_pm [0, 1, 1] rfl) rfl 0 7 rfl rfl rfl (Nat.le_of_ble_eq_true rfl) dX9_goesOn_61 ⟨Nat.le_of_ble_eq_true rfl, Nat.le_of_ble_eq_true rfl⟩ (fun u7 hu7 => ?_)
          refine hv_eqst (st' := [.int (zI (zB (ox_isb t5)))]) rfl ?_
          refine hv_weq (ws' := [(m9, .inr (7, [.int (zI (0)), .ref xt, .int (zI (sz)), .ref nw, .ref tr, .ref di, .int (zI (ac)), .ref ke, .ref ik, .ref wt, .int (zI (mz_key t5)), .int (zI (sp)), .int (zI (ou))])), (tr, .inl (dA 0, 12, .inl (fun i => zI ((ox_tb t5) i)))), (wt, .inl (dA 0, 4096, .inl (fun i => zI (u7 i)))), (nw, .inl (dA 0, 12, .inl (fun i => zI (g i))))]) (rfl) ?_
          refine hv_srt [0, 2, 0, 0] (ws' := [(m9, .inr (7, [.int (zI (0)), .ref xt, .int (zI (sz)), .ref nw, .ref tr, .ref di, .int (zI (ac)), .ref ke, .ref ik, .ref wt, .int (zI (mz_key t5)), .int (zI (sp)), .int (zI (ou))])), (nw, .inl (dA 0, 12, .inl (fun i => zI (g i)))), (tr, .inl (dA 0, 12, .inl (fun i => zI ((ox_tb t5) i)))), (wt, .inl (dA 0, 4096, .inl (fun i => zI (u7 i))))]) rfl ?_
          refine hv_if_eq C dX9_goesOn_64 (tgt := 73) (by decide) zB_e (fun hc64 => ?_) (fun hc64 => ?_)
          · have heb : ox_isb t5 = false := Bool.eq_false_iff.mpr hc64
            have hz0 := mz_go_f ht5 heb
            have hfin : ox_go g n9 (gH t5) i = (gH t5, i) := by rcases n9 with _ | k9; rfl; rw [ox_go, if_pos hz0]
            have htb : gH (ox_tb t5) = gH t5 := by unfold ox_tb; cases ef : ox_fst t5 with | none => rfl | some c8 => (exact absurd (ox_isb_s ef) hc64)
            have hte : (ox_tb t5) 1 = (gH t5 : Int) := by rw [(WF_tb ht5.1).e1, htb]
            refine hv_iload_n C dX9_goesOn_73 3 rfl ?_
            refine hv_if_ne C dX9_goesOn_74 (tgt := 86) (by decide) (zI_ne0 (by omega)) (fun hc74 => ?_) (fun hc74 => ?_)
            · refine hv_iload_n C dX9_goesOn_86 0 rfl ?_
              exact hv_iret C M dX9_goesOn_87 rfl rfl (ox_tb t5, mz_key t5, u7) (mz_LW_new ht5.1 hu7) (by rw [e9]; exact hv_rv (by rw [if_neg (by omega), ← hgo5, hfin])) [] (List.Perm.of_eq (by rw [e8]; rfl)) (Nat.le_refl _) (Nat.le_refl _)
            · refine hv_aload_n C dX9_goesOn_77 1 rfl ?_
              refine hv_get C dX9_goesOn_78 (fun w h => hw_c (tw_u_9 w h)) 0 (ci := 7) rfl rfl 4 (by decide) (hw_c tw_f_RX9_16) rfl ?_
              refine hv_iconst C dX9_goesOn_81 (v := zI (1)) rfl ?_
              refine hv_iald C dX9_goesOn_82 2 rfl (1) (rfl) (by omega) (by omega) (v := (zI ((gH t5 : Int)))) (by rw [hte]) ?_
              refine hv_goto C dX9_goesOn_83 (tgt := 87) (by decide) ?_
              exact hv_iret C M dX9_goesOn_87 rfl rfl (ox_tb t5, mz_key t5, u7) (mz_LW_new ht5.1 hu7) (by rw [e9]; exact hv_rv (by rw [if_pos (by omega), ← hgo5, hfin])) [] (List.Perm.of_eq (by rw [e8]; rfl)) (Nat.le_refl _) (Nat.le_refl _)
          · refine hv_iinc C dX9_goesOn_67 0 rfl (v := zI (((i + 1 : Nat) : Int))) ((zI_add _ _).trans (zI_c (by omega))) (by decide) (lw := [(3, .int (zI (((i + 1 : Nat) : Int)))), (0, .ref m9), (1, .int (zI (a))), (2, .int (zI (b)))]) rfl ?_
            refine hv_goto C dX9_goesOn_70 (tgt := 51) (by decide) ?_
            refine hv_lsub [0, 1, 2, 3] (lv' := [(3, .int (zI (((i + 1 : Nat) : Int)))), (0, .ref m9), (1, .int (zI (a))), (2, .int (zI (b)))]) rfl ?_
            obtain ⟨k9, rfl⟩ : ∃ k9, n9 = k9 + 1 := ⟨n9 - 1, by omega⟩
            obtain ⟨hn0, hgt, hnx⟩ := mz_go_t ht5 (Decidable.not_not.mp hc64)
            exact ih k9 (i + 1, ox_tb t5, mz_key t5, u7) (by omega) ⟨by dsimp only; omega, hgt, mz_LW_new ht5.1 hu7, by rw [← hgo5]; dsimp only; rw [ox_go, if_neg hn0, hnx]⟩
      · exact absurd hc31 (by omega)

set_option maxHeartbeats 4000000 in
set_option maxRecDepth 100000 in
theorem k_X9_bestWater (l : Launch) (D : va_G) (dA : Nat → ClassId) (m9 xt nw tr di ke ik wt : Nat) (rf sz ac ld sp ou : Int) (g : Nat → Int) (hg : WF g) (wv : Nat → Int) (hl : mz_LW ld wv) : hv_Ct l yX9_bestWater (hw_W yX9_bestWater cX9_bestWater 5 (some .int)) 9 D dA [.ref m9] ([(m9, .inr (7, [.int (zI (rf)), .ref xt, .int (zI (sz)), .ref nw, .ref tr, .ref di, .int (zI (ac)), .ref ke, .ref ik, .ref wt, .int (zI (ld)), .int (zI (sp)), .int (zI (ou))])), (nw, .inl (dA 0, 12, .inl (fun i => zI (g i)))), (wt, .inl (dA 0, 4096, .inl (fun i => zI (wv i))))]) 0 0 (S := Nat → Int) (fun _ => some (.int (zI (ox_bw g (gS g)).1))) (fun u => mz_ws g u) (fun u => [(m9, .inr (7, [.int (zI (0)), .ref xt, .int (zI (sz)), .ref nw, .ref tr, .ref di, .int (zI (ac)), .ref ke, .ref ik, .ref wt, .int (zI (mz_key g)), .int (zI (sp)), .int (zI (ou))])), (nw, .inl (dA 0, 12, .inl (fun i => zI (g i)))), (wt, .inl (dA 0, 4096, .inl (fun i => zI (u i))))]) := by
  have hg0 := hg.1
  have hg1 := hg.e1
  have hgx := hg.x
  have hg5 := hg.2.2.2.2.2
  have hgR := hg.R
  have hgS := hg.S
  have hge0 := hg.e0
  have hge5 := hg.e5
  refine hv_of (cc := cX9_bestWater) (maxL := 5) (ret := (some .int)) (own := RX9) rfl (by decide) rfl (Nat.le_of_ble_eq_true rfl) ?_
  intro p e s m args below meth c C M
  refine hv_lveq (lv' := [(0, .ref m9)]) rfl ?_
  refine hv_aload_n C dX9_bestWater_0 0 rfl ?_
  refine hv_iconst C dX9_bestWater_1 (v := zI (0)) rfl ?_
  refine hv_put C dX9_bestWater_2 (fun w h => hw_c (tw_u_9 w h)) tyX9 tyX9_ok nmX9 0 (ci := 7) (ty := .int) rfl rfl 0 (by decide) (hw_c tw_f_RX9_40) rfl rfl rfl rfl (Nat.le_of_ble_eq_true rfl) ?_
  refine hv_weq (ws' := [(m9, .inr (7, [.int (zI (0)), .ref xt, .int (zI (sz)), .ref nw, .ref tr, .ref di, .int (zI (ac)), .ref ke, .ref ik, .ref wt, .int (zI (ld)), .int (zI (sp)), .int (zI (ou))])), (nw, .inl (dA 0, 12, .inl (fun i => zI (g i)))), (wt, .inl (dA 0, 4096, .inl (fun i => zI (wv i))))]) rfl ?_
  refine hv_aload_n C dX9_bestWater_5 0 rfl ?_
  refine hv_aload_n C dX9_bestWater_6 0 rfl ?_
  refine hv_get C dX9_bestWater_7 (fun w h => hw_c (tw_u_9 w h)) 0 (ci := 7) rfl rfl 3 (by decide) (hw_c tw_f_RX9_13) rfl ?_
  refine hv_callV (As := [.ref nw]) (rest := []) (wc := [(m9, .inr (7, [.int (zI (0)), .ref xt, .int (zI (sz)), .ref nw, .ref tr, .ref di, .int (zI (ac)), .ref ke, .ref ik, .ref wt, .int (zI (ld)), .int (zI (sp)), .int (zI (ou))])), (nw, .inl (dA 0, 12, .inl (fun i => zI (g i)))), (wt, .inl (dA 0, 4096, .inl (fun i => zI (wv i))))]) (wr := []) C (k_X9_layWorths l D dA m9 xt nw tr di ke ik wt 0 sz ac ld sp ou nw g hg wv hl) (cwV 1 C.1.2.2.2.2 (hw_V tw_m_RX9_98 tw_i_X9_layWorths tw_s_X9_layWorths tw_n_RX9 tw_k_X9_layWorths) rfl rfl rfl (by decide +kernel) ⟨Nat.le_of_ble_eq_true rfl, Nat.le_of_ble_eq_true rfl⟩) (hv_pm [0, 0, 0] rfl) rfl 0 7 rfl rfl rfl (Nat.le_of_ble_eq_true rfl) dX9_bestWater_10 ⟨Nat.le_of_ble_eq_true rfl, Nat.le_of_ble_eq_true rfl⟩ (fun u7 hu7 => ?_)
  refine hv_eqst (st' := []) rfl ?_
  refine hv_weq (ws' := [(m9, .inr (7, [.int (zI (0)), .ref xt, .int (zI (sz)), .ref nw, .ref tr, .ref di, .int (zI (ac)), .ref ke, .ref ik, .ref wt, .int (zI (mz_key g)), .int (zI (sp)), .int (zI (ou))])), (nw, .inl (dA 0, 12, .inl (fun i => zI (g i)))), (wt, .inl (dA 0, 4096, .inl (fun i => zI (u7 i))))]) (rfl) ?_
  refine hv_iconst C dX9_bestWater_13 (v := zI (-1)) rfl ?_
  refine hv_istore_n C dX9_bestWater_14 (lw := [(1, .int (zI (-1))), (0, .ref m9)]) (by decide) rfl ?_
  refine hv_aload_n C dX9_bestWater_15 1 rfl ?_
  refine hv_get C dX9_bestWater_16 (fun w h => hw_c (tw_u_9 w h)) 0 (ci := 7) rfl rfl 9 (by decide) (hw_c tw_f_RX9_29) rfl ?_
  refine hv_aload_n C dX9_bestWater_19 1 rfl ?_
  refine hv_get C dX9_bestWater_20 (fun w h => hw_c (tw_u_9 w h)) 0 (ci := 7) rfl rfl 3 (by decide) (hw_c tw_f_RX9_13) rfl ?_
  refine hv_iconst C dX9_bestWater_23 (v := zI (1)) rfl ?_
  refine hv_iald C dX9_bestWater_24 1 rfl (1) (rfl) (by omega) (by omega) (v := (zI (g 1))) rfl ?_
  refine hv_iald C dX9_bestWater_25 2 rfl (gH g) (zI_ix hg.e1) (by omega) (by omega) (v := (zI (u7 (gH g)))) rfl ?_
  refine hv_istore_n C dX9_bestWater_26 (lw := [(2, .int (zI (u7 (gH g)))), (1, .int (zI (-1))), (0, .ref m9)]) (by decide) rfl ?_
  refine hv_iconst C dX9_bestWater_27 (v := zI (0)) rfl ?_
  refine hv_istore_n C dX9_bestWater_28 (lw := [(3, .int (zI (0))), (2, .int (zI (u7 (gH g)))), (1, .int (zI (-1))), (0, .ref m9)]) (by decide) rfl ?_
  refine hv_loop (σ := Nat) (fun n9 x => x + n9 = gS g) (fun x => [(m9, .inr (7, [.int (zI (0)), .ref xt, .int (zI (sz)), .ref nw, .ref tr, .ref di, .int (zI (ac)), .ref ke, .ref ik, .ref wt, .int (zI (mz_key g)), .int (zI (sp)), .int (zI (ou))])), (nw, .inl (dA 0, 12, .inl (fun i => zI (g i)))), (wt, .inl (dA 0, 4096, .inl (fun i => zI (u7 i))))]) (fun x => [(3, .int (zI ((x : Int)))), (2, .int (zI ((ox_bw g x).2))), (1, .int (zI ((ox_bw g x).1))), (0, .ref m9)]) (fun x => []) (fun _ => 0) (fun _ => 0) (gS g) (0) (Nat.zero_add _) (⟨rfl, by rw [hu7 _ hg.H]; rfl, rfl, rfl, rfl⟩) (fun n9 x hI ih => ?_)
  obtain ⟨i, rfl⟩ : ∃ i, i = x := ⟨x, rfl⟩
  have hbr := ox_bw_ran hg i (by omega)
  refine hv_iload_n C dX9_bestWater_29 0 rfl ?_
  refine hv_aload_n C dX9_bestWater_30 3 rfl ?_
  refine hv_get C dX9_bestWater_31 (fun w h => hw_c (tw_u_9 w h)) 0 (ci := 7) rfl rfl 3 (by decide) (hw_c tw_f_RX9_13) rfl ?_
  refine hv_iconst C dX9_bestWater_34 (v := zI (0)) rfl ?_
  refine hv_iald C dX9_bestWater_35 1 rfl (0) (rfl) (by omega) (by omega) (v := (zI (g 0))) rfl ?_
  refine hv_icmp_ge C dX9_bestWater_36 (tgt := 100) (by decide) (zI_le (by omega)) (fun hc36 => ?_) (fun hc36 => ?_)
  · have hie : i = gS g := by omega
    refine hv_iload_n C dX9_bestWater_100 2 rfl ?_
    exact hv_iret C M dX9_bestWater_101 rfl rfl u7 hu7 (hv_rv (by rw [hie])) [] (List.Perm.of_eq (by first | rfl | exact (List.append_nil _).symm)) (Nat.le_refl _) (Nat.le_refl _)
  · have hi : i < gS g := by omega
    refine hv_aload_n C dX9_bestWater_39 3 rfl ?_
    refine hv_get C dX9_bestWater_40 (fun w h => hw_c (tw_u_9 w h)) 0 (ci := 7) rfl rfl 3 (by decide) (hw_c tw_f_RX9_13) rfl ?_
    refine hv_iload_n C dX9_bestWater_43 0 rfl ?_
    refine hv_callS (As := [.ref nw, .int (zI ((i : Int)))]) (rest := []) (wc := [(nw, .inl (dA 0, 12, .inl (fun i => zI (g i))))]) (wr := [(m9, .inr (7, [.int (zI (0)), .ref xt, .int (zI (sz)), .ref nw, .ref tr, .ref di, .int (zI (ac)), .ref ke, .ref ik, .ref wt, .int (zI (mz_key g)), .int (zI (sp)), .int (zI (ou))])), (wt, .inl (dA 0, 4096, .inl (fun i => zI (u7 i))))]) C (k_X9_canWater l D dA nw g hg (i : Int) (by omega)) (va_cwS 2 C.1.2.2.2.2 (hw_S tw_m_RX9_140 tw_t_X9_canWater tw_n_RX9 tw_k_X9_canWater) rfl rfl rfl (by decide +kernel) ⟨Nat.le_of_ble_eq_true rfl, Nat.le_of_ble_eq_true rfl⟩) (hv_pm [1] rfl) rfl rfl (Nat.le_of_ble_eq_true rfl) dX9_bestWater_44 ⟨Nat.le_of_ble_eq_true rfl, Nat.le_of_ble_eq_true rfl⟩ (fun _ _ => ?_)
    refine hv_eqst (st' := [.int (zI (zB (ox_cw g (i : Int))))]) rfl ?_
    refine hv_weq (ws' := [(nw, .inl (dA 0, 12, .inl (fun i => zI (g i)))), (m9, .inr (7, [.int (zI (0)), .ref xt, .int (zI (sz)), .ref nw, .ref tr, .ref di, .int (zI (ac)), .ref ke, .ref ik, .ref wt, .int (zI (mz_key g)), .int (zI (sp)), .int (zI (ou))])), (wt, .inl (dA 0, 4096, .inl (fun i => zI (u7 i))))]) (rfl) ?_
    refine hv_srt [1, 0, 0] (ws' := [(m9, .inr (7, [.int (zI (0)), .ref xt, .int (zI (sz)), .ref nw, .ref tr, .ref di, .int (zI (ac)), .ref ke, .ref ik, .ref wt, .int (zI (mz_key g)), .int (zI (sp)), .int (zI (ou))])), (nw, .inl (dA 0, 12, .inl (fun i => zI (g i)))), (wt, .inl (dA 0, 4096, .inl (fun i => zI (u7 i))))]) rfl ?_
    refine hv_if_eq C dX9_bestWater_47 (tgt := 94) (by decide) zB_e (fun hc47 => ?_) (fun hc47 => ?_)
    · have hd3 : sp_dg (gH g) i = 3 := Decidable.not_not.mp (fun q => hc47 ((mz_cw_iff hg (by omega)).mpr (by rw [Int.toNat_natCast]; exact q)))
      refine hv_lveq (lv' := [(3, .int (zI ((i : Int)))), (2, .int (zI ((ox_bw g (i + 1)).2))), (1, .int (zI ((ox_bw g (i + 1)).1))), (0, .ref m9)]) (by first | (rw [ox_bw, if_pos hd3]; done) | (rw [ox_bw, if_pos hd3]; rfl)) ?_
      refine hv_iinc C dX9_bestWater_94 0 rfl (v := zI (((i + 1 : Nat) : Int))) ((zI_add _ _).trans (zI_c (by omega))) (by decide) (lw := [(3, .int (zI (((i + 1 : Nat) : Int)))), (2, .int (zI ((ox_bw g (i + 1)).2))), (1, .int (zI ((ox_bw g (i + 1)).1))), (0, .ref m9)]) rfl ?_
      refine hv_goto C dX9_bestWater_97 (tgt := 29) (by decide) ?_
      refine hv_lsub [0, 1, 2, 3] (lv' := [(3, .int (zI (((i + 1 : Nat) : Int)))), (2, .int (zI ((ox_bw g (i + 1)).2))), (1, .int (zI ((ox_bw g (i + 1)).1))), (0, .ref m9)]) rfl ?_
      obtain ⟨k9, rfl⟩ : ∃ k9, n9 = k9 + 1 := ⟨n9 - 1, by omega⟩
      exact ih k9 (i + 1) (by omega) (by omega)
    · have hd3 : ¬ sp_dg (gH g) i = 3 := by have := (mz_cw_iff hg (by omega)).mp (Decidable.not_not.mp hc47); rw [Int.toNat_natCast] at this; exact this
      have hwl := sp_wat (gS g) (by omega) (gH g) i hg.H hi hd3
      have hwr := ox_w_ran hg hwl
      have h46 := sp_4S hg.S.2
      refine hv_aload_n C dX9_bestWater_50 3 rfl ?_
      refine hv_get C dX9_bestWater_51 (fun w h => hw_c (tw_u_9 w h)) 0 (ci := 7) rfl rfl 9 (by decide) (hw_c tw_f_RX9_29) rfl ?_
      refine hv_aload_n C dX9_bestWater_54 3 rfl ?_
      refine hv_get C dX9_bestWater_55 (fun w h => hw_c (tw_u_9 w h)) 0 (ci := 7) rfl rfl 3 (by decide) (hw_c tw_f_RX9_13) rfl ?_
      refine hv_iconst C dX9_bestWater_58 (v := zI (1)) rfl ?_
      refine hv_iald C dX9_bestWater_59 1 rfl (1) (rfl) (by omega) (by omega) (v := (zI (g 1))) rfl ?_
      refine hv_iconst C dX9_bestWater_60 (v := zI (1)) rfl ?_
      refine hv_iconst C dX9_bestWater_61 (v := zI (2)) rfl ?_
      refine hv_iload_n C dX9_bestWater_62 0 rfl ?_
      refine hv_imul C dX9_bestWater_63 (zI_mul _ _) ?_
      refine hv_ishl C dX9_bestWater_64 rfl ?_
      refine hv_topi (y := zI (((4 ^ i : Nat) : Int))) (by exact sp_sh1 i (by omega)) ?_
      refine hv_iadd C dX9_bestWater_65 (z := zI ((((gH g + 4 ^ i) : Nat) : Int))) ((zI_add _ _).trans (zI_c (by omega))) ?_
      refine hv_iald C dX9_bestWater_66 2 rfl ((gH g + 4 ^ i)) (zI_nat _) (by omega) (by omega) (v := (zI ((g 4 * ox_wo g (gH g + 4 ^ i))))) (by rw [hu7 _ hwl]) ?_
      refine hv_istore C dX9_bestWater_67 (lw := [(4, .int (zI ((g 4 * ox_wo g (gH g + 4 ^ i))))), (3, .int (zI ((i : Int)))), (2, .int (zI ((ox_bw g i).2))), (1, .int (zI ((ox_bw g i).1))), (0, .ref m9)]) (by decide) rfl ?_
      refine hv_iload C dX9_bestWater_69 0 rfl ?_
      refine hv_iload_n C dX9_bestWater_71 2 rfl ?_
      refine hv_icmp_le C dX9_bestWater_72 (tgt := 79) (by decide) (zI_le (by omega)) (fun hc72 => ?_) (fun hc72 => ?_)
      · refine hv_iload_n C dX9_bestWater_79 3 rfl ?_
        refine hv_istore_n C dX9_bestWater_80 (lw := [(1, .int (zI ((ox_bw g i).1))), (4, .int (zI ((g 4 * ox_wo g (gH g + 4 ^ i))))), (3, .int (zI ((i : Int)))), (2, .int (zI ((ox_bw g i).2))), (0, .ref m9)]) (by decide) rfl ?_
        refine hv_iload C dX9_bestWater_81 1 rfl ?_
        refine hv_iload_n C dX9_bestWater_83 3 rfl ?_
        refine hv_icmp_le C dX9_bestWater_84 (tgt := 92) (by decide) (zI_le (by omega)) (fun hc84 => ?_) (fun hc84 => ?_)
        · refine hv_iload_n C dX9_bestWater_92 3 rfl ?_
          refine hv_istore_n C dX9_bestWater_93 (lw := [(2, .int (zI ((ox_bw g i).2))), (1, .int (zI ((ox_bw g i).1))), (4, .int (zI ((g 4 * ox_wo g (gH g + 4 ^ i))))), (3, .int (zI ((i : Int)))), (0, .ref m9)]) (by decide) rfl ?_
          refine hv_lveq (lv' := [(2, .int (zI ((ox_bw g (i + 1)).2))), (1, .int (zI ((ox_bw g (i + 1)).1))), (4, .int (zI ((g 4 * ox_wo g (gH g + 4 ^ i))))), (3, .int (zI ((i : Int)))), (0, .ref m9)]) (by first | (rw [ox_bw, if_neg hd3, if_neg (by omega)]; done) | (rw [ox_bw, if_neg hd3, if_neg (by omega)]; rfl)) ?_
          refine hv_iinc C dX9_bestWater_94 3 rfl (v := zI (((i + 1 : Nat) : Int))) ((zI_add _ _).trans (zI_c (by omega))) (by decide) (lw := [(3, .int (zI (((i + 1 : Nat) : Int)))), (2, .int (zI ((ox_bw g (i + 1)).2))), (1, .int (zI ((ox_bw g (i + 1)).1))), (4, .int (zI ((g 4 * ox_wo g (gH g + 4 ^ i))))), (0, .ref m9)]) rfl ?_
          refine hv_goto C dX9_bestWater_97 (tgt := 29) (by decide) ?_
          refine hv_lsub [0, 1, 2, 4] (lv' := [(3, .int (zI (((i + 1 : Nat) : Int)))), (2, .int (zI ((ox_bw g (i + 1)).2))), (1, .int (zI ((ox_bw g (i + 1)).1))), (0, .ref m9)]) rfl ?_
          obtain ⟨k9, rfl⟩ : ∃ k9, n9 = k9 + 1 := ⟨n9 - 1, by omega⟩
          exact ih k9 (i + 1) (by omega) (by omega)
        · exact absurd hc84 (by omega)
      · refine hv_iload_n C dX9_bestWater_75 1 rfl ?_
        refine hv_goto C dX9_bestWater_76 (tgt := 80) (by decide) ?_
        refine hv_istore_n C dX9_bestWater_80 (lw := [(1, .int (zI ((i : Int)))), (4, .int (zI ((g 4 * ox_wo g (gH g + 4 ^ i))))), (3, .int (zI ((i : Int)))), (2, .int (zI ((ox_bw g i).2))), (0, .ref m9)]) (by decide) rfl ?_
        refine hv_iload C dX9_bestWater_81 1 rfl ?_
        refine hv_iload_n C dX9_bestWater_83 3 rfl ?_
        refine hv_icmp_le C dX9_bestWater_84 (tgt := 92) (by decide) (zI_le (by omega)) (fun hc84 => ?_) (fun hc84 => ?_)
        · exact absurd hc84 (by omega)
        · refine hv_iload C dX9_bestWater_87 1 rfl ?_
          refine hv_goto C dX9_bestWater_89 (tgt := 93) (by decide) ?_
          refine hv_istore_n C dX9_bestWater_93 (lw := [(2, .int (zI ((g 4 * ox_wo g (gH g + 4 ^ i))))), (1, .int (zI ((i : Int)))), (4, .int (zI ((g 4 * ox_wo g (gH g + 4 ^ i))))), (3, .int (zI ((i : Int)))), (0, .ref m9)]) (by decide) rfl ?_
          refine hv_lveq (lv' := [(2, .int (zI ((ox_bw g (i + 1)).2))), (1, .int (zI ((ox_bw g (i + 1)).1))), (4, .int (zI ((g 4 * ox_wo g (gH g + 4 ^ i))))), (3, .int (zI ((i : Int)))), (0, .ref m9)]) (by first | (rw [ox_bw, if_neg hd3, if_pos (by omega)]; done) | (rw [ox_bw, if_neg hd3, if_pos (by omega)]; rfl)) ?_
          refine hv_iinc C dX9_bestWater_94 3 rfl (v := zI (((i + 1 : Nat) : Int))) ((zI_add _ _).trans (zI_c (by omega))) (by decide) (lw := [(3, .int (zI (((i + 1 : Nat) : Int)))), (2, .int (zI ((ox_bw g (i + 1)).2))), (1, .int (zI ((ox_bw g (i + 1)).1))), (4, .int (zI ((g 4 * ox_wo g (gH g + 4 ^ i))))), (0, .ref m9)]) rfl ?_
          refine hv_goto C dX9_bestWater_97 (tgt := 29) (by decide) ?_
          refine hv_lsub [0, 1, 2, 4] (lv' := [(3, .int (zI (((i + 1 : Nat) : Int)))), (2, .int (zI ((ox_bw g (i + 1)).2))), (1, .int (zI ((ox_bw g (i + 1)).1))), (0, .ref m9)]) rfl ?_
          obtain ⟨k9, rfl⟩ : ∃ k9, n9 = k9 + 1 := ⟨n9 - 1, by omega⟩
          exact ih k9 (i + 1) (by omega) (by omega)

set_option maxHeartbeats 4000000 in
set_option maxRecDepth 100000 in
theorem k_X9_save (l : Launch) (D : va_G) (dA : Nat → ClassId) (m9 xt nw tr di ke ik wt : Nat) (rf sz ac ld sp ou : Int) (g : Nat → Int) (sal : Nat → Bool) (sct : Nat → Nat → Int) (kp : Nat → Int) (hK : mz_K sal sct kp) (z : Int) (hz : -2147483648 ≤ z ∧ z < 2147483648) : hv_Ct l yX9_save (hw_W yX9_save cX9_save 2 (some .int)) 2 D dA [.ref m9, .int (zI (z))] ([(m9, .inr (7, [.int (zI (rf)), .ref xt, .int (zI (sz)), .ref nw, .ref tr, .ref di, .int (zI (ac)), .ref ke, .ref ik, .ref wt, .int (zI (ld)), .int (zI (sp)), .int (zI (ou))])), (nw, .inl (dA 0, 12, .inl (fun i => zI (g i)))), (ke, .inl (dA 0, 24, .inl (fun i => zI (kp i)))), (ik, .inl (dA 3, 2, .inl (fun i => zI (zB (sal i)))))]) 0 0 (S := Nat → Int) (fun _ => mz_w (xc_slot z) (some (.int (zI (g 8 + g 9)))) (some (.int (zI 0)))) (fun u => xc_slot z = none → mz_K (mo_al sal z.toNat) (mo_ct sct z.toNat g) u) (fun u => mz_w (xc_slot z) ([(m9, .inr (7, [.int (zI (mz_k1 (xc_slot z))), .ref xt, .int (zI (sz)), .ref nw, .ref tr, .ref di, .int (zI (ac)), .ref ke, .ref ik, .ref wt, .int (zI (ld)), .int (zI (sp)), .int (zI (ou))])), (nw, .inl (dA 0, 12, .inl (fun i => zI (g i)))), (ke, .inl (dA 0, 24, .inl (fun i => zI (u i)))), (ik, .inl (dA 3, 2, .inl (fun i => zI (zB ((mo_al sal z.toNat) i)))))]) ([(m9, .inr (7, [.int (zI (mz_k1 (xc_slot z))), .ref xt, .int (zI (sz)), .ref nw, .ref tr, .ref di, .int (zI (ac)), .ref ke, .ref ik, .ref wt, .int (zI (ld)), .int (zI (sp)), .int (zI (ou))])), (nw, .inl (dA 0, 12, .inl (fun i => zI (g i)))), (ke, .inl (dA 0, 24, .inl (fun i => zI (kp i)))), (ik, .inl (dA 3, 2, .inl (fun i => zI (zB (sal i)))))])) := by
  refine hv_of (cc := cX9_save) (maxL := 2) (ret := (some .int)) (own := RX9) rfl (by decide) rfl (Nat.le_of_ble_eq_true rfl) ?_
  intro p e s m args below meth c C M
  refine hv_lveq (lv' := [(0, .ref m9), (1, .int (zI (z)))]) rfl ?_
  refine hv_aload_n C dX9_save_0 0 rfl ?_
  refine hv_iload_n C dX9_save_1 1 rfl ?_
  refine hv_i2l C dX9_save_2 (v := (zL (z))) (by exact zL_i (by omega)) ?_
  refine hv_lconst C dX9_save_3 (v := 0) rfl ?_
  refine hv_lconst C dX9_save_4 (v := 1) rfl ?_
  refine hv_eqst (st' := [.long (zL (1)), .long (zL (0)), .long (zL (z)), .ref m9]) (by rfl) ?_
  refine hv_callS (As := [.long (zL (z)), .long (zL (0)), .long (zL (1))]) (rest := [.ref m9]) (wc := []) (wr := [(m9, .inr (7, [.int (zI (rf)), .ref xt, .int (zI (sz)), .ref nw, .ref tr, .ref di, .int (zI (ac)), .ref ke, .ref ik, .ref wt, .int (zI (ld)), .int (zI (sp)), .int (zI (ou))])), (nw, .inl (dA 0, 12, .inl (fun i => zI (g i)))), (ke, .inl (dA 0, 24, .inl (fun i => zI (kp i)))), (ik, .inl (dA 3, 2, .inl (fun i => zI (zB (sal i)))))]) C (k_X9_in l D dA (z) (by omega) (0) (by omega) (1) (by omega)) (va_cwS 3 C.1.2.2.2.2 (hw_S tw_m_RX9_43 tw_t_X9_in tw_n_RX9 tw_k_X9_in) rfl rfl rfl (by decide +kernel) ⟨Nat.le_of_ble_eq_true rfl, Nat.le_of_ble_eq_true rfl⟩) (hv_pm [] rfl) rfl rfl (Nat.le_of_ble_eq_true rfl) dX9_save_5 ⟨Nat.le_of_ble_eq_true rfl, Nat.le_of_ble_eq_true rfl⟩ (fun _ _ => ?_)
  refine hv_eqst (st' := [.int (zI (zB (decide (0 ≤ z ∧ z ≤ 1)))), .ref m9]) rfl ?_
  refine hv_weq (ws' := [(m9, .inr (7, [.int (zI (rf)), .ref xt, .int (zI (sz)), .ref nw, .ref tr, .ref di, .int (zI (ac)), .ref ke, .ref ik, .ref wt, .int (zI (ld)), .int (zI (sp)), .int (zI (ou))])), (nw, .inl (dA 0, 12, .inl (fun i => zI (g i)))), (ke, .inl (dA 0, 24, .inl (fun i => zI (kp i)))), (ik, .inl (dA 3, 2, .inl (fun i => zI (zB (sal i)))))]) (rfl) ?_
  refine hv_if_eq C dX9_save_8 (tgt := 15) (by decide) zB_0 (fun hc8 => ?_) (fun hc8 => ?_)
  · refine hv_iconst C dX9_save_15 (v := zI (1)) rfl ?_
    refine hv_callV (As := [.int (zI (1))]) (rest := []) (wc := [(m9, .inr (7, [.int (zI (rf)), .ref xt, .int (zI (sz)), .ref nw, .ref tr, .ref di, .int (zI (ac)), .ref ke, .ref ik, .ref wt, .int (zI (ld)), .int (zI (sp)), .int (zI (ou))]))]) (wr := [(nw, .inl (dA 0, 12, .inl (fun i => zI (g i)))), (ke, .inl (dA 0, 24, .inl (fun i => zI (kp i)))), (ik, .inl (dA 3, 2, .inl (fun i => zI (zB (sal i)))))]) C (k_X9_refused l D dA m9 xt nw tr di ke ik wt (rf) (sz) (ac) (ld) (sp) (ou) 1 (by omega)) (cwV 1 C.1.2.2.2.2 (hw_V tw_m_RX9_122 tw_i_X9_refused tw_s_X9_refused tw_n_RX9 tw_k_X9_refused) rfl rfl rfl (by decide +kernel) ⟨Nat.le_of_ble_eq_true rfl, Nat.le_of_ble_eq_true rfl⟩) (hv_pm [0] rfl) rfl 0 7 rfl rfl rfl (Nat.le_of_ble_eq_true rfl) dX9_save_16 ⟨Nat.le_of_ble_eq_true rfl, Nat.le_of_ble_eq_true rfl⟩ (fun _ _ => ?_)
    have e9 : xc_slot z = some hx_IOE := by unfold xc_slot; (repeat' split) <;> first | rfl | (exfalso; omega)
    have e8 : mz_k1 (xc_slot z) = 1 := by rw [e9]; exact mz_k1s
    refine hv_eqst (st' := [.int (zI (zB (decide ((0 : Int) < 1))))]) rfl ?_
    refine hv_weq (ws' := [(m9, .inr (7, [.int (zI (1)), .ref xt, .int (zI (sz)), .ref nw, .ref tr, .ref di, .int (zI (ac)), .ref ke, .ref ik, .ref wt, .int (zI (ld)), .int (zI (sp)), .int (zI (ou))])), (nw, .inl (dA 0, 12, .inl (fun i => zI (g i)))), (ke, .inl (dA 0, 24, .inl (fun i => zI (kp i)))), (ik, .inl (dA 3, 2, .inl (fun i => zI (zB (sal i)))))]) (rfl) ?_
    refine hv_if_eq C dX9_save_19 (tgt := 24) (by decide) zB_0 (fun hc19 => ?_) (fun hc19 => ?_)
    · exact absurd hc19 (by omega)
    · refine hv_iconst C dX9_save_22 (v := zI (0)) rfl ?_
      exact hv_iret C M dX9_save_23 rfl rfl kp (fun q => absurd (e9.symm.trans q) (by simp)) (by rw [e9]; rfl) [] (List.Perm.of_eq (by rw [e8, e9]; rfl)) (Nat.le_refl _) (Nat.le_refl _)
  · refine hv_iconst C dX9_save_11 (v := zI (0)) rfl ?_
    refine hv_goto C dX9_save_12 (tgt := 16) (by decide) ?_
    refine hv_callV (As := [.int (zI (0))]) (rest := []) (wc := [(m9, .inr (7, [.int (zI (rf)), .ref xt, .int (zI (sz)), .ref nw, .ref tr, .ref di, .int (zI (ac)), .ref ke, .ref ik, .ref wt, .int (zI (ld)), .int (zI (sp)), .int (zI (ou))]))]) (wr := [(nw, .inl (dA 0, 12, .inl (fun i => zI (g i)))), (ke, .inl (dA 0, 24, .inl (fun i => zI (kp i)))), (ik, .inl (dA 3, 2, .inl (fun i => zI (zB (sal i)))))]) C (k_X9_refused l D dA m9 xt nw tr di ke ik wt (rf) (sz) (ac) (ld) (sp) (ou) 0 (by omega)) (cwV 1 C.1.2.2.2.2 (hw_V tw_m_RX9_122 tw_i_X9_refused tw_s_X9_refused tw_n_RX9 tw_k_X9_refused) rfl rfl rfl (by decide +kernel) ⟨Nat.le_of_ble_eq_true rfl, Nat.le_of_ble_eq_true rfl⟩) (hv_pm [0] rfl) rfl 0 7 rfl rfl rfl (Nat.le_of_ble_eq_true rfl) dX9_save_16 ⟨Nat.le_of_ble_eq_true rfl, Nat.le_of_ble_eq_true rfl⟩ (fun _ _ => ?_)
    have e9 : xc_slot z = none := by unfold xc_slot; (repeat' split) <;> first | rfl | (exfalso; omega)
    have e8 : mz_k1 (xc_slot z) = 0 := by rw [e9]; exact mz_k1n
    refine hv_eqst (st' := [.int (zI (zB (decide ((0 : Int) < 0))))]) rfl ?_
    refine hv_weq (ws' := [(m9, .inr (7, [.int (zI (0)), .ref xt, .int (zI (sz)), .ref nw, .ref tr, .ref di, .int (zI (ac)), .ref ke, .ref ik, .ref wt, .int (zI (ld)), .int (zI (sp)), .int (zI (ou))])), (nw, .inl (dA 0, 12, .inl (fun i => zI (g i)))), (ke, .inl (dA 0, 24, .inl (fun i => zI (kp i)))), (ik, .inl (dA 3, 2, .inl (fun i => zI (zB (sal i)))))]) (rfl) ?_
    refine hv_if_eq C dX9_save_19 (tgt := 24) (by decide) zB_0 (fun hc19 => ?_) (fun hc19 => ?_)
    · refine hv_aload_n C dX9_save_24 0 rfl ?_
      refine hv_get C dX9_save_25 (fun w h => hw_c (tw_u_9 w h)) 0 (ci := 7) rfl rfl 3 (by decide) (hw_c tw_f_RX9_13) rfl ?_
      refine hv_iconst C dX9_save_28 (v := zI (0)) rfl ?_
      refine hv_aload_n C dX9_save_29 0 rfl ?_
      refine hv_get C dX9_save_30 (fun w h => hw_c (tw_u_9 w h)) 0 (ci := 7) rfl rfl 7 (by decide) (hw_c tw_f_RX9_22) rfl ?_
      refine hv_bipush C dX9_save_33 (v := zI (12)) (by decide +kernel) ?_
      refine hv_iload_n C dX9_save_35 1 rfl ?_
      refine hv_imul C dX9_save_36 (zI_mul _ _) ?_
      refine hv_callS (As := [.ref nw, .int (zI (0)), .ref ke, .int (zI ((12) * (z)))]) (rest := []) (wc := [(nw, .inl (dA 0, 12, .inl (fun i => zI (g i)))), (ke, .inl (dA 0, 24, .inl (fun i => zI (kp i))))]) (wr := [(m9, .inr (7, [.int (zI (0)), .ref xt, .int (zI (sz)), .ref nw, .ref tr, .ref di, .int (zI (ac)), .ref ke, .ref ik, .ref wt, .int (zI (ld)), .int (zI (sp)), .int (zI (ou))])), (ik, .inl (dA 3, 2, .inl (fun i => zI (zB (sal i)))))]) C (k_X9_copyState l D dA nw ke 12 24 g kp 0 (12 * z.toNat) rfl (by omega) (by omega) (by omega) (by omega) (by omega)) (va_cwS 4 C.1.2.2.2.2 (hw_S tw_m_RX9_162 tw_t_X9_copyState tw_n_RX9 tw_k_X9_copyState) rfl rfl rfl (by decide +kernel) ⟨Nat.le_of_ble_eq_true rfl, Nat.le_of_ble_eq_true rfl⟩) (hv_pm [1, 1] rfl) rfl rfl (Nat.le_of_ble_eq_true rfl) dX9_save_37 ⟨Nat.le_of_ble_eq_true rfl, Nat.le_of_ble_eq_true rfl⟩ (fun _ _ => ?_)
      refine hv_eqst (st' := []) rfl ?_
      refine hv_weq (ws' := [(nw, .inl (dA 0, 12, .inl (fun i => zI (g i)))), (ke, .inl (dA 0, 24, .inl (fun i => zI ((mz_c kp g 0 (12 * z.toNat) 12) i)))), (m9, .inr (7, [.int (zI (0)), .ref xt, .int (zI (sz)), .ref nw, .ref tr, .ref di, .int (zI (ac)), .ref ke, .ref ik, .ref wt, .int (zI (ld)), .int (zI (sp)), .int (zI (ou))])), (ik, .inl (dA 3, 2, .inl (fun i => zI (zB (sal i)))))]) (rfl) ?_
      refine hv_srt [2, 0, 0, 0] (ws' := [(m9, .inr (7, [.int (zI (0)), .ref xt, .int (zI (sz)), .ref nw, .ref tr, .ref di, .int (zI (ac)), .ref ke, .ref ik, .ref wt, .int (zI (ld)), .int (zI (sp)), .int (zI (ou))])), (nw, .inl (dA 0, 12, .inl (fun i => zI (g i)))), (ke, .inl (dA 0, 24, .inl (fun i => zI ((mz_c kp g 0 (12 * z.toNat) 12) i)))), (ik, .inl (dA 3, 2, .inl (fun i => zI (zB (sal i)))))]) rfl ?_
      refine hv_aload_n C dX9_save_40 0 rfl ?_
      refine hv_get C dX9_save_41 (fun w h => hw_c (tw_u_9 w h)) 0 (ci := 7) rfl rfl 8 (by decide) (hw_c tw_f_RX9_25) rfl ?_
      refine hv_iload_n C dX9_save_44 1 rfl ?_
      refine hv_iconst C dX9_save_45 (v := zI (1)) rfl ?_
      refine hv_zast C dX9_save_46 3 rfl (z.toNat) (zI_ix (by omega)) (by omega) (by omega) (y := zI 1) (by decide +kernel) ?_
      refine hv_weq (ws' := [(m9, .inr (7, [.int (zI (0)), .ref xt, .int (zI (sz)), .ref nw, .ref tr, .ref di, .int (zI (ac)), .ref ke, .ref ik, .ref wt, .int (zI (ld)), .int (zI (sp)), .int (zI (ou))])), (nw, .inl (dA 0, 12, .inl (fun i => zI (g i)))), (ke, .inl (dA 0, 24, .inl (fun i => zI ((mz_c kp g 0 (12 * z.toNat) 12) i)))), (ik, .inl (dA 3, 2, .inl (fun i => zI (zB (mo_al sal z.toNat i)))))]) (by rw [mz_ik]; rfl) ?_
      refine hv_aload_n C dX9_save_47 0 rfl ?_
      refine hv_get C dX9_save_48 (fun w h => hw_c (tw_u_9 w h)) 0 (ci := 7) rfl rfl 3 (by decide) (hw_c tw_f_RX9_13) rfl ?_
      refine hv_bipush C dX9_save_51 (v := zI (8)) (by decide +kernel) ?_
      refine hv_callS (As := [.ref nw, .int (zI (8))]) (rest := []) (wc := [(nw, .inl (dA 0, 12, .inl (fun i => zI (g i))))]) (wr := [(m9, .inr (7, [.int (zI (0)), .ref xt, .int (zI (sz)), .ref nw, .ref tr, .ref di, .int (zI (ac)), .ref ke, .ref ik, .ref wt, .int (zI (ld)), .int (zI (sp)), .int (zI (ou))])), (ke, .inl (dA 0, 24, .inl (fun i => zI ((mz_c kp g 0 (12 * z.toNat) 12) i)))), (ik, .inl (dA 3, 2, .inl (fun i => zI (zB (mo_al sal z.toNat i)))))]) C (k_X9_both l D dA nw g 8 rfl (by omega)) (va_cwS 2 C.1.2.2.2.2 (hw_S tw_m_RX9_202 tw_t_X9_both tw_n_RX9 tw_k_X9_both) rfl rfl rfl (by decide +kernel) ⟨Nat.le_of_ble_eq_true rfl, Nat.le_of_ble_eq_true rfl⟩) (hv_pm [1] rfl) rfl rfl (Nat.le_of_ble_eq_true rfl) dX9_save_53 ⟨Nat.le_of_ble_eq_true rfl, Nat.le_of_ble_eq_true rfl⟩ (fun _ _ => ?_)
      refine hv_eqst (st' := [.int (zI (g 8 + g (8 + 1)))]) rfl ?_
      refine hv_weq (ws' := [(nw, .inl (dA 0, 12, .inl (fun i => zI (g i)))), (m9, .inr (7, [.int (zI (0)), .ref xt, .int (zI (sz)), .ref nw, .ref tr, .ref di, .int (zI (ac)), .ref ke, .ref ik, .ref wt, .int (zI (ld)), .int (zI (sp)), .int (zI (ou))])), (ke, .inl (dA 0, 24, .inl (fun i => zI ((mz_c kp g 0 (12 * z.toNat) 12) i)))), (ik, .inl (dA 3, 2, .inl (fun i => zI (zB (mo_al sal z.toNat i)))))]) (rfl) ?_
      refine hv_srt [1, 0, 0, 0] (ws' := [(m9, .inr (7, [.int (zI (0)), .ref xt, .int (zI (sz)), .ref nw, .ref tr, .ref di, .int (zI (ac)), .ref ke, .ref ik, .ref wt, .int (zI (ld)), .int (zI (sp)), .int (zI (ou))])), (nw, .inl (dA 0, 12, .inl (fun i => zI (g i)))), (ke, .inl (dA 0, 24, .inl (fun i => zI ((mz_c kp g 0 (12 * z.toNat) 12) i)))), (ik, .inl (dA 3, 2, .inl (fun i => zI (zB (mo_al sal z.toNat i)))))]) rfl ?_
      exact hv_iret C M dX9_save_56 rfl rfl (mz_c kp g 0 (12 * z.toNat) 12) (fun _ => mz_K_save hK (fun i hi => by rw [mz_c_eq, if_neg hi]) (fun i hi => by rw [mz_c_eq, if_pos (by omega)]; congr 1; omega)) (by rw [e9]; rfl) [] (List.Perm.of_eq (by rw [e8, e9]; rfl)) (Nat.le_refl _) (Nat.le_refl _)
    · exact absurd hc19 (by omega)

set_option maxHeartbeats 4000000 in
set_option maxRecDepth 100000 in
theorem k_X9_restore (l : Launch) (D : va_G) (dA : Nat → ClassId) (m9 xt nw tr di ke ik wt : Nat) (rf sz ac ld sp ou : Int) (g : Nat → Int) (sal : Nat → Bool) (sct : Nat → Nat → Int) (kp : Nat → Int) (hK : mz_K sal sct kp) (z : Int) (hz : -2147483648 ≤ z ∧ z < 2147483648) : hv_Ct l yX9_restore (hw_W yX9_restore cX9_restore 2 (some .int)) 2 D dA [.ref m9, .int (zI (z))] ([(m9, .inr (7, [.int (zI (rf)), .ref xt, .int (zI (sz)), .ref nw, .ref tr, .ref di, .int (zI (ac)), .ref ke, .ref ik, .ref wt, .int (zI (ld)), .int (zI (sp)), .int (zI (ou))])), (nw, .inl (dA 0, 12, .inl (fun i => zI (g i)))), (ke, .inl (dA 0, 24, .inl (fun i => zI (kp i)))), (ik, .inl (dA 3, 2, .inl (fun i => zI (zB (sal i)))))]) 0 0 (S := Unit) (fun _ => mz_w (xc_rest sal z) (some (.int (zI (sct z.toNat 8 + sct z.toNat 9)))) (some (.int (zI 0)))) (fun _ => True) (fun u => mz_w (xc_rest sal z) ([(m9, .inr (7, [.int (zI (mz_k2 hx_IOE (xc_rest sal z))), .ref xt, .int (zI (sz)), .ref nw, .ref tr, .ref di, .int (zI (0)), .ref ke, .ref ik, .ref wt, .int (zI (ld)), .int (zI (sp)), .int (zI (ou))])), (nw, .inl (dA 0, 12, .inl (fun i => zI ((sct z.toNat) i)))), (ke, .inl (dA 0, 24, .inl (fun i => zI (kp i)))), (ik, .inl (dA 3, 2, .inl (fun i => zI (zB (sal i)))))]) ([(m9, .inr (7, [.int (zI (mz_k2 hx_IOE (xc_rest sal z))), .ref xt, .int (zI (sz)), .ref nw, .ref tr, .ref di, .int (zI (ac)), .ref ke, .ref ik, .ref wt, .int (zI (ld)), .int (zI (sp)), .int (zI (ou))])), (nw, .inl (dA 0, 12, .inl (fun i => zI (g i)))), (ke, .inl (dA 0, 24, .inl (fun i => zI (kp i)))), (ik, .inl (dA 3, 2, .inl (fun i => zI (zB (sal i)))))])) := by
  refine hv_of (cc := cX9_restore) (maxL := 2) (ret := (some .int)) (own := RX9) rfl (by decide) rfl (Nat.le_of_ble_eq_true rfl) ?_
  intro p e s m args below meth c C M
  refine hv_lveq (lv' := [(0, .ref m9), (1, .int (zI (z)))]) rfl ?_
  refine hv_aload_n C dX9_restore_0 0 rfl ?_
  refine hv_iload_n C dX9_restore_1 1 rfl ?_
  refine hv_i2l C dX9_restore_2 (v := (zL (z))) (by exact zL_i (by omega)) ?_
  refine hv_lconst C dX9_restore_3 (v := 0) rfl ?_
  refine hv_lconst C dX9_restore_4 (v := 1) rfl ?_
  refine hv_eqst (st' := [.long (zL (1)), .long (zL (0)), .long (zL (z)), .ref m9]) (by rfl) ?_
  refine hv_callS (As := [.long (zL (z)), .long (zL (0)), .long (zL (1))]) (rest := [.ref m9]) (wc := []) (wr := [(m9, .inr (7, [.int (zI (rf)), .ref xt, .int (zI (sz)), .ref nw, .ref tr, .ref di, .int (zI (ac)), .ref ke, .ref ik, .ref wt, .int (zI (ld)), .int (zI (sp)), .int (zI (ou))])), (nw, .inl (dA 0, 12, .inl (fun i => zI (g i)))), (ke, .inl (dA 0, 24, .inl (fun i => zI (kp i)))), (ik, .inl (dA 3, 2, .inl (fun i => zI (zB (sal i)))))]) C (k_X9_in l D dA (z) (by omega) (0) (by omega) (1) (by omega)) (va_cwS 3 C.1.2.2.2.2 (hw_S tw_m_RX9_43 tw_t_X9_in tw_n_RX9 tw_k_X9_in) rfl rfl rfl (by decide +kernel) ⟨Nat.le_of_ble_eq_true rfl, Nat.le_of_ble_eq_true rfl⟩) (hv_pm [] rfl) rfl rfl (Nat.le_of_ble_eq_true rfl) dX9_restore_5 ⟨Nat.le_of_ble_eq_true rfl, Nat.le_of_ble_eq_true rfl⟩ (fun _ _ => ?_)
  refine hv_eqst (st' := [.int (zI (zB (decide (0 ≤ z ∧ z ≤ 1)))), .ref m9]) rfl ?_
  refine hv_weq (ws' := [(m9, .inr (7, [.int (zI (rf)), .ref xt, .int (zI (sz)), .ref nw, .ref tr, .ref di, .int (zI (ac)), .ref ke, .ref ik, .ref wt, .int (zI (ld)), .int (zI (sp)), .int (zI (ou))])), (nw, .inl (dA 0, 12, .inl (fun i => zI (g i)))), (ke, .inl (dA 0, 24, .inl (fun i => zI (kp i)))), (ik, .inl (dA 3, 2, .inl (fun i => zI (zB (sal i)))))]) (rfl) ?_
  refine hv_if_ne C dX9_restore_8 (tgt := 15) (by decide) zB_n0 (fun hc8 => ?_) (fun hc8 => ?_)
  · refine hv_aload_n C dX9_restore_15 0 rfl ?_
    refine hv_get C dX9_restore_16 (fun w h => hw_c (tw_u_9 w h)) 0 (ci := 7) rfl rfl 8 (by decide) (hw_c tw_f_RX9_25) rfl ?_
    refine hv_iload_n C dX9_restore_19 1 rfl ?_
    refine hv_zald C dX9_restore_20 3 rfl (z.toNat) (zI_ix (by omega)) (by omega) (by omega) (v := (zI (zB (sal z.toNat)))) rfl ?_
    refine hv_if_ne C dX9_restore_21 (tgt := 28) (by decide) zB_en (fun hc21 => ?_) (fun hc21 => ?_)
    · refine hv_iconst C dX9_restore_28 (v := zI (0)) rfl ?_
      refine hv_callV (As := [.int (zI (0))]) (rest := []) (wc := [(m9, .inr (7, [.int (zI (rf)), .ref xt, .int (zI (sz)), .ref nw, .ref tr, .ref di, .int (zI (ac)), .ref ke, .ref ik, .ref wt, .int (zI (ld)), .int (zI (sp)), .int (zI (ou))]))]) (wr := [(nw, .inl (dA 0, 12, .inl (fun i => zI (g i)))), (ke, .inl (dA 0, 24, .inl (fun i => zI (kp i)))), (ik, .inl (dA 3, 2, .inl (fun i => zI (zB (sal i)))))]) C (k_X9_refused l D dA m9 xt nw tr di ke ik wt (rf) (sz) (ac) (ld) (sp) (ou) 0 (by omega)) (cwV 1 C.1.2.2.2.2 (hw_V tw_m_RX9_122 tw_i_X9_refused tw_s_X9_refused tw_n_RX9 tw_k_X9_refused) rfl rfl rfl (by decide +kernel) ⟨Nat.le_of_ble_eq_true rfl, Nat.le_of_ble_eq_true rfl⟩) (hv_pm [0] rfl) rfl 0 7 rfl rfl rfl (Nat.le_of_ble_eq_true rfl) dX9_restore_29 ⟨Nat.le_of_ble_eq_true rfl, Nat.le_of_ble_eq_true rfl⟩ (fun _ _ => ?_)
      have e9 : xc_rest sal z = none := by unfold xc_rest xc_slot; rw [if_pos (by omega), if_pos hc21]; rfl
      have e8 : mz_k2 hx_IOE (xc_rest sal z) = 0 := by rw [e9]; exact mz_k2n
      refine hv_eqst (st' := [.int (zI (zB (decide ((0 : Int) < 0))))]) rfl ?_
      refine hv_weq (ws' := [(m9, .inr (7, [.int (zI (0)), .ref xt, .int (zI (sz)), .ref nw, .ref tr, .ref di, .int (zI (ac)), .ref ke, .ref ik, .ref wt, .int (zI (ld)), .int (zI (sp)), .int (zI (ou))])), (nw, .inl (dA 0, 12, .inl (fun i => zI (g i)))), (ke, .inl (dA 0, 24, .inl (fun i => zI (kp i)))), (ik, .inl (dA 3, 2, .inl (fun i => zI (zB (sal i)))))]) (rfl) ?_
      refine hv_if_eq C dX9_restore_32 (tgt := 37) (by decide) zB_0 (fun hc32 => ?_) (fun hc32 => ?_)
      · refine hv_aload_n C dX9_restore_37 0 rfl ?_
        refine hv_get C dX9_restore_38 (fun w h => hw_c (tw_u_9 w h)) 0 (ci := 7) rfl rfl 7 (by decide) (hw_c tw_f_RX9_22) rfl ?_
        refine hv_bipush C dX9_restore_41 (v := zI (12)) (by decide +kernel) ?_
        refine hv_iload_n C dX9_restore_43 1 rfl ?_
        refine hv_imul C dX9_restore_44 (zI_mul _ _) ?_
        refine hv_aload_n C dX9_restore_45 0 rfl ?_
        refine hv_get C dX9_restore_46 (fun w h => hw_c (tw_u_9 w h)) 0 (ci := 7) rfl rfl 3 (by decide) (hw_c tw_f_RX9_13) rfl ?_
        refine hv_iconst C dX9_restore_49 (v := zI (0)) rfl ?_
        refine hv_callS (As := [.ref ke, .int (zI ((12) * (z))), .ref nw, .int (zI (0))]) (rest := []) (wc := [(ke, .inl (dA 0, 24, .inl (fun i => zI (kp i)))), (nw, .inl (dA 0, 12, .inl (fun i => zI (g i))))]) (wr := [(m9, .inr (7, [.int (zI (0)), .ref xt, .int (zI (sz)), .ref nw, .ref tr, .ref di, .int (zI (ac)), .ref ke, .ref ik, .ref wt, .int (zI (ld)), .int (zI (sp)), .int (zI (ou))])), (ik, .inl (dA 3, 2, .inl (fun i => zI (zB (sal i)))))]) C (k_X9_copyState l D dA ke nw 24 12 kp g (12 * z.toNat) 0 (by omega) rfl (by omega) (by omega) (by omega) (by omega)) (va_cwS 4 C.1.2.2.2.2 (hw_S tw_m_RX9_162 tw_t_X9_copyState tw_n_RX9 tw_k_X9_copyState) rfl rfl rfl (by decide +kernel) ⟨Nat.le_of_ble_eq_true rfl, Nat.le_of_ble_eq_true rfl⟩) (hv_pm [2, 1] rfl) rfl rfl (Nat.le_of_ble_eq_true rfl) dX9_restore_50 ⟨Nat.le_of_ble_eq_true rfl, Nat.le_of_ble_eq_true rfl⟩ (fun _ _ => ?_)
        refine hv_eqst (st' := []) rfl ?_
        refine hv_weq (ws' := [(ke, .inl (dA 0, 24, .inl (fun i => zI (kp i)))), (nw, .inl (dA 0, 12, .inl (fun i => zI ((mz_c g kp (12 * z.toNat) 0 12) i)))), (m9, .inr (7, [.int (zI (0)), .ref xt, .int (zI (sz)), .ref nw, .ref tr, .ref di, .int (zI (ac)), .ref ke, .ref ik, .ref wt, .int (zI (ld)), .int (zI (sp)), .int (zI (ou))])), (ik, .inl (dA 3, 2, .inl (fun i => zI (zB (sal i)))))]) (rfl) ?_
        refine hv_srt [2, 1, 0, 0] (ws' := [(m9, .inr (7, [.int (zI (0)), .ref xt, .int (zI (sz)), .ref nw, .ref tr, .ref di, .int (zI (ac)), .ref ke, .ref ik, .ref wt, .int (zI (ld)), .int (zI (sp)), .int (zI (ou))])), (nw, .inl (dA 0, 12, .inl (fun i => zI ((mz_c g kp (12 * z.toNat) 0 12) i)))), (ke, .inl (dA 0, 24, .inl (fun i => zI (kp i)))), (ik, .inl (dA 3, 2, .inl (fun i => zI (zB (sal i)))))]) rfl ?_
        refine hv_acg 1 (f' := fun i => zI ((sct z.toNat) i)) rfl (fun i hi => ?_) rfl ?_
        · exact congrArg zI ((by rw [mz_c_eq, if_pos (by omega), show 12 * z.toNat + (i - 0) = 12 * z.toNat + i by omega]; exact hK z.toNat (by omega) hc21 i hi))
        refine hv_aload_n C dX9_restore_53 0 rfl ?_
        refine hv_iconst C dX9_restore_54 (v := zI (0)) rfl ?_
        refine hv_put C dX9_restore_55 (fun w h => hw_c (tw_u_9 w h)) tyX9 tyX9_ok nmX9 0 (ci := 7) (ty := .int) rfl rfl 6 (by decide) (hw_c tw_f_RX9_166) rfl rfl rfl rfl (Nat.le_of_ble_eq_true rfl) ?_
        refine hv_weq (ws' := [(m9, .inr (7, [.int (zI (0)), .ref xt, .int (zI (sz)), .ref nw, .ref tr, .ref di, .int (zI (0)), .ref ke, .ref ik, .ref wt, .int (zI (ld)), .int (zI (sp)), .int (zI (ou))])), (nw, .inl (dA 0, 12, .inl (fun i => zI ((sct z.toNat) i)))), (ke, .inl (dA 0, 24, .inl (fun i => zI (kp i)))), (ik, .inl (dA 3, 2, .inl (fun i => zI (zB (sal i)))))]) rfl ?_
        refine hv_aload_n C dX9_restore_58 0 rfl ?_
        refine hv_get C dX9_restore_59 (fun w h => hw_c (tw_u_9 w h)) 0 (ci := 7) rfl rfl 3 (by decide) (hw_c tw_f_RX9_13) rfl ?_
        refine hv_bipush C dX9_restore_62 (v := zI (8)) (by decide +kernel) ?_
        refine hv_callS (As := [.ref nw, .int (zI (8))]) (rest := []) (wc := [(nw, .inl (dA 0, 12, .inl (fun i => zI ((sct z.toNat) i))))]) (wr := [(m9, .inr (7, [.int (zI (0)), .ref xt, .int (zI (sz)), .ref nw, .ref tr, .ref di, .int (zI (0)), .ref ke, .ref ik, .ref wt, .int (zI (ld)), .int (zI (sp)), .int (zI (ou))])), (ke, .inl (dA 0, 24, .inl (fun i => zI (kp i)))), (ik, .inl (dA 3, 2, .inl (fun i => zI (zB (sal i)))))]) C (k_X9_both l D dA nw (sct z.toNat) 8 rfl (by omega)) (va_cwS 2 C.1.2.2.2.2 (hw_S tw_m_RX9_202 tw_t_X9_both tw_n_RX9 tw_k_X9_both) rfl rfl rfl (by decide +kernel) ⟨Nat.le_of_ble_eq_true rfl, Nat.le_of_ble_eq_true rfl⟩) (hv_pm [1] rfl) rfl rfl (Nat.le_of_ble_eq_true rfl) dX9_restore_64 ⟨Nat.le_of_ble_eq_true rfl, Nat.le_of_ble_eq_true rfl⟩ (fun _ _ => ?_)
        refine hv_eqst (st' := [.int (zI ((sct z.toNat) 8 + (sct z.toNat) (8 + 1)))]) rfl ?_
        refine hv_weq (ws' := [(nw, .inl (dA 0, 12, .inl (fun i => zI ((sct z.toNat) i)))), (m9, .inr (7, [.int (zI (0)), .ref xt, .int (zI (sz)), .ref nw, .ref tr, .ref di, .int (zI (0)), .ref ke, .ref ik, .ref wt, .int (zI (ld)), .int (zI (sp)), .int (zI (ou))])), (ke, .inl (dA 0, 24, .inl (fun i => zI (kp i)))), (ik, .inl (dA 3, 2, .inl (fun i => zI (zB (sal i)))))]) (rfl) ?_
        refine hv_srt [1, 0, 0, 0] (ws' := [(m9, .inr (7, [.int (zI (0)), .ref xt, .int (zI (sz)), .ref nw, .ref tr, .ref di, .int (zI (0)), .ref ke, .ref ik, .ref wt, .int (zI (ld)), .int (zI (sp)), .int (zI (ou))])), (nw, .inl (dA 0, 12, .inl (fun i => zI ((sct z.toNat) i)))), (ke, .inl (dA 0, 24, .inl (fun i => zI (kp i)))), (ik, .inl (dA 3, 2, .inl (fun i => zI (zB (sal i)))))]) rfl ?_
        exact hv_iret C M dX9_restore_67 rfl rfl () trivial (by rw [e9]; rfl) [] (List.Perm.of_eq (by rw [e8, e9]; rfl)) (Nat.le_refl _) (Nat.le_refl _)
      · exact absurd hc32 (by omega)
    · refine hv_iconst C dX9_restore_24 (v := zI (2)) rfl ?_
      refine hv_goto C dX9_restore_25 (tgt := 29) (by decide) ?_
      refine hv_callV (As := [.int (zI (2))]) (rest := []) (wc := [(m9, .inr (7, [.int (zI (rf)), .ref xt, .int (zI (sz)), .ref nw, .ref tr, .ref di, .int (zI (ac)), .ref ke, .ref ik, .ref wt, .int (zI (ld)), .int (zI (sp)), .int (zI (ou))]))]) (wr := [(nw, .inl (dA 0, 12, .inl (fun i => zI (g i)))), (ke, .inl (dA 0, 24, .inl (fun i => zI (kp i)))), (ik, .inl (dA 3, 2, .inl (fun i => zI (zB (sal i)))))]) C (k_X9_refused l D dA m9 xt nw tr di ke ik wt (rf) (sz) (ac) (ld) (sp) (ou) 2 (by omega)) (cwV 1 C.1.2.2.2.2 (hw_V tw_m_RX9_122 tw_i_X9_refused tw_s_X9_refused tw_n_RX9 tw_k_X9_refused) rfl rfl rfl (by decide +kernel) ⟨Nat.le_of_ble_eq_true rfl, Nat.le_of_ble_eq_true rfl⟩) (hv_pm [0] rfl) rfl 0 7 rfl rfl rfl (Nat.le_of_ble_eq_true rfl) dX9_restore_29 ⟨Nat.le_of_ble_eq_true rfl, Nat.le_of_ble_eq_true rfl⟩ (fun _ _ => ?_)
      have e9 : xc_rest sal z = some hx_ISE := by unfold xc_rest xc_slot; rw [if_pos (by omega), if_neg hc21]; rfl
      have e8 : mz_k2 hx_IOE (xc_rest sal z) = 2 := by rw [e9]; exact (mz_k2b hx_23)
      refine hv_eqst (st' := [.int (zI (zB (decide ((0 : Int) < 2))))]) rfl ?_
      refine hv_weq (ws' := [(m9, .inr (7, [.int (zI (2)), .ref xt, .int (zI (sz)), .ref nw, .ref tr, .ref di, .int (zI (ac)), .ref ke, .ref ik, .ref wt, .int (zI (ld)), .int (zI (sp)), .int (zI (ou))])), (nw, .inl (dA 0, 12, .inl (fun i => zI (g i)))), (ke, .inl (dA 0, 24, .inl (fun i => zI (kp i)))), (ik, .inl (dA 3, 2, .inl (fun i => zI (zB (sal i)))))]) (rfl) ?_
      refine hv_if_eq C dX9_restore_32 (tgt := 37) (by decide) zB_0 (fun hc32 => ?_) (fun hc32 => ?_)
      · exact absurd hc32 (by omega)
      · refine hv_iconst C dX9_restore_35 (v := zI (0)) rfl ?_
        exact hv_iret C M dX9_restore_36 rfl rfl () trivial (by rw [e9]; rfl) [] (List.Perm.of_eq (by rw [e8, e9]; rfl)) (Nat.le_refl _) (Nat.le_refl _)
  · refine hv_iconst C dX9_restore_11 (v := zI (1)) rfl ?_
    refine hv_goto C dX9_restore_12 (tgt := 29) (by decide) ?_
    refine hv_callV (As := [.int (zI (1))]) (rest := []) (wc := [(m9, .inr (7, [.int (zI (rf)), .ref xt, .int (zI (sz)), .ref nw, .ref tr, .ref di, .int (zI (ac)), .ref ke, .ref ik, .ref wt, .int (zI (ld)), .int (zI (sp)), .int (zI (ou))]))]) (wr := [(nw, .inl (dA 0, 12, .inl (fun i => zI (g i)))), (ke, .inl (dA 0, 24, .inl (fun i => zI (kp i)))), (ik, .inl (dA 3, 2, .inl (fun i => zI (zB (sal i)))))]) C (k_X9_refused l D dA m9 xt nw tr di ke ik wt (rf) (sz) (ac) (ld) (sp) (ou) 1 (by omega)) (cwV 1 C.1.2.2.2.2 (hw_V tw_m_RX9_122 tw_i_X9_refused tw_s_X9_refused tw_n_RX9 tw_k_X9_refused) rfl rfl rfl (by decide +kernel) ⟨Nat.le_of_ble_eq_true rfl, Nat.le_of_ble_eq_true rfl⟩) (hv_pm [0] rfl) rfl 0 7 rfl rfl rfl (Nat.le_of_ble_eq_true rfl) dX9_restore_29 ⟨Nat.le_of_ble_eq_true rfl, Nat.le_of_ble_eq_true rfl⟩ (fun _ _ => ?_)
    have e9 : xc_rest sal z = some hx_IOE := by unfold xc_rest xc_slot; rw [if_neg (by omega)]; rfl
    have e8 : mz_k2 hx_IOE (xc_rest sal z) = 1 := by rw [e9]; exact mz_k2a
    refine hv_eqst (st' := [.int (zI (zB (decide ((0 : Int) < 1))))]) rfl ?_
    refine hv_weq (ws' := [(m9, .inr (7, [.int (zI (1)), .ref xt, .int (zI (sz)), .ref nw, .ref tr, .ref di, .int (zI (ac)), .ref ke, .ref ik, .ref wt, .int (zI (ld)), .int (zI (sp)), .int (zI (ou))])), (nw, .inl (dA 0, 12, .inl (fun i => zI (g i)))), (ke, .inl (dA 0, 24, .inl (fun i => zI (kp i)))), (ik, .inl (dA 3, 2, .inl (fun i => zI (zB (sal i)))))]) (rfl) ?_
    refine hv_if_eq C dX9_restore_32 (tgt := 37) (by decide) zB_0 (fun hc32 => ?_) (fun hc32 => ?_)
    · exact absurd hc32 (by omega)
    · refine hv_iconst C dX9_restore_35 (v := zI (0)) rfl ?_
      exact hv_iret C M dX9_restore_36 rfl rfl () trivial (by rw [e9]; rfl) [] (List.Perm.of_eq (by rw [e8, e9]; rfl)) (Nat.le_refl _) (Nat.le_refl _)
