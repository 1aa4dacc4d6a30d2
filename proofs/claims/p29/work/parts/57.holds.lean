set_option maxHeartbeats 4000000 in
set_option maxRecDepth 100000 in
theorem k_L_holds (l : Launch) (D : va_G) (dA : Nat → ClassId) (sa : Nat → Nat) (hst : l.stackTraces = false) (a : Nat → Nat) (L : ob_L) (h : ob_H) (hJ : ob_J L) (hk0 : ob_k h) (haj : hal h (ox_j (lg L)) = true) : hy_Ct l yL_holds (hw_W yL_holds cL_holds 18 (some .boolean)) 47 D dA sa [.ref (a 0)] (ob_W dA a L h) 690 4200 (S := ob_H) (fun _ => some (.int (zI (1)))) (fun u => ob_k u ∧ hal u (ox_j (lg L)) = true) (fun u => ob_W dA a L u) := by
  have hg := hJ.1
  have hg0 := hg.1
  have hg1 := hg.2.1.1
  have hg2 := hg.2.2.1
  have hg3 := hg.2.2.2.1
  have hg4 := hg.2.2.2.2.1
  have hg5 := hg.2.2.2.2.2
  have e0 := hg.e0
  have e1 := hg.e1
  have e5 := hg.e5
  have hS := hg.S
  have hR := hg.R
  have hx12 := hg.x
  have hwr0 : -54 ≤ ox_w (lg L) ∧ ox_w (lg L) ≤ 54 := ox_w_ran hg hg.H
  have hbr0 : -1 ≤ wo_best (gS (lg L)) (gW (lg L)) (gR (lg L)) (gH (lg L)) ∧ wo_best (gS (lg L)) (gW (lg L)) (gR (lg L)) (gH (lg L)) < 1000 := by rcases Nat.eq_zero_or_pos (gH (lg L)) with z | z; rw [z, wo_best0]; decide; obtain ⟨b, b1, -, b3, -⟩ := wo_best_pos (w := (gW (lg L))) hS hR hg.H z; have := ob_bok hS hR b1; omega
  have hlc6 := sp_lc6 hx12
  refine hz_of (own := RL) (cc := cL_holds) (maxL := 18) (ret := (some .boolean)) rfl (by decide) rfl (Nat.le_of_ble_eq_true rfl) ?_
  intro p e s m args below meth c C X M
  refine hv_lveq (lv' := [(0, .ref (a 0))]) rfl ?_
  refine hv_aload_n C dL_holds_0 0 rfl ?_
  refine hv_iconst C dL_holds_1 (v := zI (2)) rfl ?_
  refine hv_iconst C dL_holds_2 (v := zI (0)) rfl ?_
  refine hv_iconst C dL_holds_3 (v := zI (0)) rfl ?_
  refine hv_iconst C dL_holds_4 (v := zI (0)) rfl ?_
  refine hz_callS (As := [.ref (a 0), .int (zI (2)), .int (zI (0)), .int (zI (0)), .int (zI (0))]) (rest := []) (wc := ob_W dA a L h) (wr := []) C X (k_C_about_r l D dA sa hst a L h hJ hk0 (0) (by decide) (0) (0) haj) (va_cwS 5 C.1.2.2.2.2 (hw_S tw_m_RL_132 tw_t_L_call tw_n_RL tw_k_L_call) rfl rfl rfl (by decide +kernel) ⟨Nat.le_of_ble_eq_true rfl, Nat.le_of_ble_eq_true rfl⟩) (List.Perm.of_eq (List.append_nil _).symm) rfl rfl (Nat.le_of_ble_eq_true rfl) dL_holds_5 ⟨Nat.le_of_ble_eq_true rfl, Nat.le_of_ble_eq_true rfl⟩ (fun u1 hu1 => ?_)
  have haj1 := ob_pj hu1 haj
  refine hv_weq (ws' := ob_W dA a L u1) (List.append_nil _) ?_
  refine hv_eqst (st' := [.int (zI (an_about L (0)))]) rfl ?_
  refine hv_topi (y := zI (lg L 0)) (by rw [show an_about L (0) = lg L 0 from an_abo0 L]) ?_
  refine hv_istore_n C dL_holds_8 (lw := [(1, .int (zI (lg L 0))), (0, .ref (a 0))]) (by decide) rfl ?_
  refine hv_aload_n C dL_holds_9 1 rfl ?_
  refine hv_iconst C dL_holds_10 (v := zI (5)) rfl ?_
  refine hv_iconst C dL_holds_11 (v := zI (1)) rfl ?_
  refine hv_iconst C dL_holds_12 (v := zI (0)) rfl ?_
  refine hv_iconst C dL_holds_13 (v := zI (0)) rfl ?_
  refine hz_callS (As := [.ref (a 0), .int (zI (5)), .int (zI (1)), .int (zI (0)), .int (zI (0))]) (rest := []) (wc := ob_W dA a L u1) (wr := []) C X (k_C_setting l D dA sa hst a L u1 hJ hu1.1 (1) (by decide) (0) (0)) (va_cwS 5 C.1.2.2.2.2 (hw_S tw_m_RL_132 tw_t_L_call tw_n_RL tw_k_L_call) rfl rfl rfl (by decide +kernel) ⟨Nat.le_of_ble_eq_true rfl, Nat.le_of_ble_eq_true rfl⟩) (List.Perm.of_eq (List.append_nil _).symm) rfl rfl (Nat.le_of_ble_eq_true rfl) dL_holds_14 ⟨Nat.le_of_ble_eq_true rfl, Nat.le_of_ble_eq_true rfl⟩ (fun u2 hu2 => ?_)
  have haj2 := ob_pj hu2 haj1
  refine hv_weq (ws' := ob_W dA a L u2) (List.append_nil _) ?_
  refine hv_eqst (st' := [.int (zI (an_setting L (1)))]) rfl ?_
  refine hv_topi (y := zI (lg L 5)) (by rw [show an_setting L (1) = lg L 5 from an_set1 L]) ?_
  refine hv_istore_n C dL_holds_17 (lw := [(2, .int (zI (lg L 5))), (1, .int (zI (lg L 0))), (0, .ref (a 0))]) (by decide) rfl ?_
  refine hv_aload_n C dL_holds_18 2 rfl ?_
  refine hv_callV (As := []) (rest := []) (wc := ob_W dA a L u2) (wr := []) C (k_O_worth l D dA a L u2 hJ hu2.1 haj2) (cwV 0 C.1.2.2.2.2 (hw_V tw_m_RL_149 tw_i_X8_worth tw_s_X8_worth tw_n_RX8 tw_k_X8_worth) rfl rfl rfl (by decide +kernel) ⟨Nat.le_of_ble_eq_true rfl, Nat.le_of_ble_eq_true rfl⟩) (List.Perm.of_eq (List.append_nil _).symm) rfl 0 6 rfl rfl rfl (Nat.le_of_ble_eq_true rfl) dL_holds_19 ⟨Nat.le_of_ble_eq_true rfl, Nat.le_of_ble_eq_true rfl⟩ (fun u3 hu3 => ?_)
  have haj3 := ob_pj hu3 haj2
  refine hv_weq (ws' := ob_W dA a L u3) (List.append_nil _) ?_
  refine hv_eqst (st' := [.int (zI (100 + ox_w (lg L)))]) rfl ?_
  refine hv_bipush C dL_holds_22 (v := zI (100)) (by decide +kernel) ?_
  refine hv_isub C dL_holds_24 (z := zI (ox_w (lg L))) ((zI_sub _ _).trans (zI_c (by omega))) ?_
  refine hv_istore_n C dL_holds_25 (lw := [(3, .int (zI (ox_w (lg L)))), (2, .int (zI (lg L 5))), (1, .int (zI (lg L 0))), (0, .ref (a 0))]) (by decide) rfl ?_
  refine hv_aload_n C dL_holds_26 3 rfl ?_
  refine hv_callV (As := []) (rest := []) (wc := ob_W dA a L u3) (wr := []) C (k_O_bestClip l D dA a L u3 hJ hu3.1 haj3) (cwV 0 C.1.2.2.2.2 (hw_V tw_m_RL_152 tw_i_X8_bestClip tw_s_X8_bestClip tw_n_RX8 tw_k_X8_bestClip) rfl rfl rfl (by decide +kernel) ⟨Nat.le_of_ble_eq_true rfl, Nat.le_of_ble_eq_true rfl⟩) (List.Perm.of_eq (List.append_nil _).symm) rfl 0 6 rfl rfl rfl (Nat.le_of_ble_eq_true rfl) dL_holds_27 ⟨Nat.le_of_ble_eq_true rfl, Nat.le_of_ble_eq_true rfl⟩ (fun u4 hu4 => ?_)
  have haj4 := ob_pj hu4 haj3
  refine hv_weq (ws' := ob_W dA a L u4) (List.append_nil _) ?_
  refine hv_eqst (st' := [.int (zI (wo_best (gS (lg L)) (gW (lg L)) (gR (lg L)) (gH (lg L))))]) rfl ?_
  refine hv_istore C dL_holds_30 (lw := [(4, .int (zI (wo_best (gS (lg L)) (gW (lg L)) (gR (lg L)) (gH (lg L))))), (3, .int (zI (ox_w (lg L)))), (2, .int (zI (lg L 5))), (1, .int (zI (lg L 0))), (0, .ref (a 0))]) (by decide) rfl ?_
  refine hv_iconst C dL_holds_32 (v := zI (0)) rfl ?_
  refine hv_istore C dL_holds_33 (lw := [(5, .int (zI (0))), (4, .int (zI (wo_best (gS (lg L)) (gW (lg L)) (gR (lg L)) (gH (lg L))))), (3, .int (zI (ox_w (lg L)))), (2, .int (zI (lg L 5))), (1, .int (zI (lg L 0))), (0, .ref (a 0))]) (by decide) rfl ?_
  refine hv_iconst C dL_holds_35 (v := zI (0)) rfl ?_
  refine hv_istore C dL_holds_36 (lw := [(6, .int (zI (0))), (5, .int (zI (0))), (4, .int (zI (wo_best (gS (lg L)) (gW (lg L)) (gR (lg L)) (gH (lg L))))), (3, .int (zI (ox_w (lg L)))), (2, .int (zI (lg L 5))), (1, .int (zI (lg L 0))), (0, .ref (a 0))]) (by decide) rfl ?_
  refine hv_iconst C dL_holds_38 (v := zI (0)) rfl ?_
  refine hv_istore C dL_holds_39 (lw := [(7, .int (zI (0))), (6, .int (zI (0))), (5, .int (zI (0))), (4, .int (zI (wo_best (gS (lg L)) (gW (lg L)) (gR (lg L)) (gH (lg L))))), (3, .int (zI (ox_w (lg L)))), (2, .int (zI (lg L 5))), (1, .int (zI (lg L 0))), (0, .ref (a 0))]) (by decide) rfl ?_
  refine hv_iload_n C dL_holds_41 6 rfl ?_
  refine hv_iconst C dL_holds_42 (v := zI (1)) rfl ?_
  refine hv_isub C dL_holds_43 (z := zI (((gS (lg L)) : Int) - 1 - ((0 : Nat) : Int))) ((zI_sub _ _).trans (zI_c (by omega))) ?_
  refine hv_istore C dL_holds_44 (lw := [(8, .int (zI (((gS (lg L)) : Int) - 1 - ((0 : Nat) : Int)))), (7, .int (zI (0))), (6, .int (zI (0))), (5, .int (zI (0))), (4, .int (zI (wo_best (gS (lg L)) (gW (lg L)) (gR (lg L)) (gH (lg L))))), (3, .int (zI (ox_w (lg L)))), (2, .int (zI (lg L 5))), (1, .int (zI (lg L 0))), (0, .ref (a 0))]) (by decide) rfl ?_
  refine hv_loop (σ := Nat × ob_H) (fun n9 x => x.1 + n9 = (gS (lg L)) ∧ ob_k x.2 ∧ hal x.2 (ox_j (lg L)) = true) (fun x => ob_W dA a L x.2) (fun x => [(8, .int (zI (((gS (lg L)) : Int) - 1 - (x.1 : Int)))), (7, .int (zI ((hb_n (gS (lg L)) (gH (lg L)) x.1 : Int)))), (6, .int (zI ((hb_b (gS (lg L)) (gH (lg L)) x.1 : Int)))), (5, .int (zI ((hb_l (gS (lg L)) (gH (lg L)) x.1 : Int)))), (4, .int (zI (wo_best (gS (lg L)) (gW (lg L)) (gR (lg L)) (gH (lg L))))), (3, .int (zI (ox_w (lg L)))), (2, .int (zI (lg L 5))), (1, .int (zI (lg L 0))), (0, .ref (a 0))]) (fun x => []) (fun x => 2 + x.1) (fun x => 12 + 6 * x.1) ((gS (lg L))) ((0, u4)) (⟨Nat.zero_add _, hu4.1, haj4⟩) (⟨rfl, rfl, rfl, rfl, rfl⟩) (fun n9 x hI ih => ?_)
  obtain ⟨i, v⟩ := x
  dsimp only at hI ⊢
  obtain ⟨hi, hv1, hv2⟩ := hI
  have hbr := hb_ran (gS (lg L)) (gH (lg L)) i
  have hbn := hb_ran6 (S := (gS (lg L))) (H := (gH (lg L))) (m := i) (by omega)
  refine hv_iload C dL_holds_46 0 rfl ?_
  refine hv_if_lt C dL_holds_48 (tgt := 99) (by decide) (zI_lt0 (by omega)) (fun hc48 => ?_) (fun hc48 => ?_)
  · have hm : i = gS (lg L) := by omega
    have he := hb_end (gS (lg L)) hS (gH (lg L)) hg.H
    refine hv_lsub [8, 7, 6, 5, 4, 3, 2, 1] (lv' := [(0, .ref (a 0)), (1, .int (zI (lg L 0))), (2, .int (zI (lg L 5))), (3, .int (zI (ox_w (lg L)))), (4, .int (zI (wo_best (gS (lg L)) (gW (lg L)) (gR (lg L)) (gH (lg L))))), (5, .int (zI ((hb_l (gS (lg L)) (gH (lg L)) i : Int)))), (6, .int (zI ((hb_b (gS (lg L)) (gH (lg L)) i : Int)))), (7, .int (zI ((hb_n (gS (lg L)) (gH (lg L)) i : Int))))]) rfl ?_
    refine hv_lveq (lv' := [(0, .ref (a 0)), (1, .int (zI (lg L 0))), (2, .int (zI (lg L 5))), (3, .int (zI (ox_w (lg L)))), (4, .int (zI (wo_best (gS (lg L)) (gW (lg L)) (gR (lg L)) (gH (lg L))))), (5, .int (zI ((sp_lv (gH (lg L)) : Int)))), (6, .int (zI (lg L 0 - (sp_lc (gH (lg L)) : Int)))), (7, .int (zI (((gH (lg L)) : Int))))]) (by rw [hm, he.1, he.2.2, show ((hb_b (gS (lg L)) (gH (lg L)) (gS (lg L)) : Nat) : Int) = lg L 0 - (sp_lc (gH (lg L)) : Int) from by omega]) ?_
    refine hv_widen (ce' := 8) (sl' := 48) (by omega) (by omega) ?_
    refine hv_iconst C dL_holds_99 (v := zI (0)) rfl ?_
    refine hv_istore C dL_holds_100 (lw := [(8, .int (zI (0))), (0, .ref (a 0)), (1, .int (zI (lg L 0))), (2, .int (zI (lg L 5))), (3, .int (zI (ox_w (lg L)))), (4, .int (zI (wo_best (gS (lg L)) (gW (lg L)) (gR (lg L)) (gH (lg L))))), (5, .int (zI ((sp_lv (gH (lg L)) : Int)))), (6, .int (zI (lg L 0 - (sp_lc (gH (lg L)) : Int)))), (7, .int (zI (((gH (lg L)) : Int))))]) (by decide) rfl ?_
    refine hv_iconst C dL_holds_102 (v := zI (0)) rfl ?_
    refine hv_istore C dL_holds_103 (lw := [(9, .int (zI (0))), (8, .int (zI (0))), (0, .ref (a 0)), (1, .int (zI (lg L 0))), (2, .int (zI (lg L 5))), (3, .int (zI (ox_w (lg L)))), (4, .int (zI (wo_best (gS (lg L)) (gW (lg L)) (gR (lg L)) (gH (lg L))))), (5, .int (zI ((sp_lv (gH (lg L)) : Int)))), (6, .int (zI (lg L 0 - (sp_lc (gH (lg L)) : Int)))), (7, .int (zI (((gH (lg L)) : Int))))]) (by decide) rfl ?_
    refine hv_iload_n C dL_holds_105 3 rfl ?_
    refine hv_iconst C dL_holds_106 (v := zI (2)) rfl ?_
    refine hv_icmp_lt C dL_holds_107 (tgt := 120) (by decide) (zI_lt (by omega)) (fun hc107 => ?_) (fun hc107 => ?_)
    · exact absurd hc107 (by omega)
    · refine hv_iload_n C dL_holds_110 3 rfl ?_
      refine hv_bipush C dL_holds_111 (v := zI (6)) (by decide +kernel) ?_
      refine hv_icmp_gt C dL_holds_113 (tgt := 120) (by decide) (zI_lt (by omega)) (fun hc113 => ?_) (fun hc113 => ?_)
      · exact absurd hc113 (by omega)
      · refine hv_iconst C dL_holds_116 (v := zI (1)) rfl ?_
        refine hv_goto C dL_holds_117 (tgt := 121) (by decide) ?_
        refine hv_istore C dL_holds_121 (lw := [(10, .int (zI (1))), (9, .int (zI (0))), (8, .int (zI (0))), (0, .ref (a 0)), (1, .int (zI (lg L 0))), (2, .int (zI (lg L 5))), (3, .int (zI (ox_w (lg L)))), (4, .int (zI (wo_best (gS (lg L)) (gW (lg L)) (gR (lg L)) (gH (lg L))))), (5, .int (zI ((sp_lv (gH (lg L)) : Int)))), (6, .int (zI (lg L 0 - (sp_lc (gH (lg L)) : Int)))), (7, .int (zI (((gH (lg L)) : Int))))]) (by decide) rfl ?_
        refine hv_iconst C dL_holds_123 (v := zI (0)) rfl ?_
        refine hv_istore C dL_holds_124 (lw := [(11, .int (zI (0))), (10, .int (zI (1))), (9, .int (zI (0))), (8, .int (zI (0))), (0, .ref (a 0)), (1, .int (zI (lg L 0))), (2, .int (zI (lg L 5))), (3, .int (zI (ox_w (lg L)))), (4, .int (zI (wo_best (gS (lg L)) (gW (lg L)) (gR (lg L)) (gH (lg L))))), (5, .int (zI ((sp_lv (gH (lg L)) : Int)))), (6, .int (zI (lg L 0 - (sp_lc (gH (lg L)) : Int)))), (7, .int (zI (((gH (lg L)) : Int))))]) (by decide) rfl ?_
        refine hv_loop (σ := Nat × ob_H) (fun n9 x => x.1 + n9 = 9 * (gS (lg L)) ∧ ob_k x.2 ∧ hal x.2 (ox_j (lg L)) = true) (fun x => ob_W dA a L x.2) (fun x => [(11, .int (zI ((x.1 : Int)))), (10, .int (zI (1))), (9, .int (zI ((wo_cnt (wo_isb (gS (lg L)) (gW (lg L)) (gR (lg L)) (gH (lg L))) (hk_l (gS (lg L)) (gR (lg L)) x.1) : Int)))), (8, .int (zI ((wo_cnt (wo_can (gH (lg L))) (hk_l (gS (lg L)) (gR (lg L)) x.1) : Int)))), (0, .ref (a 0)), (1, .int (zI (lg L 0))), (2, .int (zI (lg L 5))), (3, .int (zI (ox_w (lg L)))), (4, .int (zI (wo_best (gS (lg L)) (gW (lg L)) (gR (lg L)) (gH (lg L))))), (5, .int (zI ((sp_lv (gH (lg L)) : Int)))), (6, .int (zI (lg L 0 - (sp_lc (gH (lg L)) : Int)))), (7, .int (zI (((gH (lg L)) : Int))))]) (fun x => []) (fun x => 8 + 12 * x.1) (fun x => 48 + 72 * x.1) (9 * (gS (lg L))) ((0, v)) (⟨Nat.zero_add _, hv1, hv2⟩) (⟨rfl, rfl, rfl, rfl, rfl⟩) (fun n9 x hI ih => ?_)
        obtain ⟨i, v⟩ := x
        dsimp only at hI ⊢
        obtain ⟨hi, hv1, hv2⟩ := hI
        have hec : ((hk_c i : Nat) : Int) = 100 * ((i : Int) / 9) + 10 * ((i : Int) / 9 + (i : Int) / 3 % 3) + (1 + (i : Int) % 3) := by unfold hk_c; omega
        have hc8 := hk_cnt_le (wo_can (gH (lg L))) (gS (lg L)) (gR (lg L)) i
        have hc9 := hk_cnt_le (wo_isb (gS (lg L)) (gW (lg L)) (gR (lg L)) (gH (lg L))) (gS (lg L)) (gR (lg L)) i
        refine hv_iload C dL_holds_126 0 rfl ?_
        refine hv_bipush C dL_holds_128 (v := zI (9)) (by decide +kernel) ?_
        refine hv_iload_n C dL_holds_130 5 rfl ?_
        refine hv_imul C dL_holds_131 (z := zI (9 * lg L 0)) ((zI_mul _ _).trans (zI_c (by omega))) ?_
        refine hv_icmp_ge C dL_holds_132 (tgt := 319) (by decide) (zI_le (by omega)) (fun hc132 => ?_) (fun hc132 => ?_)
        · have hm2 : i = 9 * gS (lg L) := by omega
          refine hv_lsub [4, 5, 6, 7, 8, 9, 10, 11, 3, 2, 1] (lv' := [(0, .ref (a 0)), (1, .int (zI (lg L 0))), (2, .int (zI (lg L 5))), (3, .int (zI (ox_w (lg L)))), (4, .int (zI (wo_best (gS (lg L)) (gW (lg L)) (gR (lg L)) (gH (lg L))))), (5, .int (zI ((sp_lv (gH (lg L)) : Int)))), (6, .int (zI (lg L 0 - (sp_lc (gH (lg L)) : Int)))), (7, .int (zI (((gH (lg L)) : Int)))), (8, .int (zI ((wo_cnt (wo_can (gH (lg L))) (hk_l (gS (lg L)) (gR (lg L)) i) : Int)))), (9, .int (zI ((wo_cnt (wo_isb (gS (lg L)) (gW (lg L)) (gR (lg L)) (gH (lg L))) (hk_l (gS (lg L)) (gR (lg L)) i) : Int)))), (10, .int (zI (1)))]) rfl ?_
          refine hv_lveq (lv' := [(0, .ref (a 0)), (1, .int (zI (lg L 0))), (2, .int (zI (lg L 5))), (3, .int (zI (ox_w (lg L)))), (4, .int (zI (wo_best (gS (lg L)) (gW (lg L)) (gR (lg L)) (gH (lg L))))), (5, .int (zI ((sp_lv (gH (lg L)) : Int)))), (6, .int (zI (lg L 0 - (sp_lc (gH (lg L)) : Int)))), (7, .int (zI (((gH (lg L)) : Int)))), (8, .int (zI ((wo_cnt (wo_can (gH (lg L))) (wo_cls (gS (lg L)) (gR (lg L))) : Int)))), (9, .int (zI ((wo_cnt (wo_isb (gS (lg L)) (gW (lg L)) (gR (lg L)) (gH (lg L))) (wo_cls (gS (lg L)) (gR (lg L))) : Int)))), (10, .int (zI (1)))]) (by rw [hm2, hk_end _ hS _ hR]) ?_
          refine hv_widen (ce' := 656) (sl' := 3936) (by omega) (by omega) ?_
          have hgo := ox_go_le hg 18 (gH (lg L)) 0 hg.H
          have hpow := sp_hlt hS.2 hgo.2.2.2
          have hlv18 := sp_lv18 (gH (lg L))
          have hcw := wo_len _ (show gS (lg L) < 7 by omega) _ (show gR (lg L) < 4 by omega)
          have hcp : wo_cnt (wo_can (gH (lg L))) (wo_cls (gS (lg L)) (gR (lg L))) ≤ 45 := Nat.le_trans (List.length_filter_le _ _) hcw
          rcases Nat.eq_zero_or_pos (gH (lg L)) with h0 | h0
          · have hlv0 : sp_lv (gH (lg L)) = 0 := by rw [h0]; decide
            have hw0 : ox_w (lg L) = 0 := by unfold ox_w ox_wo; rw [h0, wo_0, Int.mul_zero]
            have hp0 : wo_cnt (wo_can (gH (lg L))) (wo_cls (gS (lg L)) (gR (lg L))) = 0 := by rw [h0]; exact wo_cnt_can0 _
            have hbm : wo_best (gS (lg L)) (gW (lg L)) (gR (lg L)) (gH (lg L)) = -1 := by rw [h0]; exact wo_best0 _ _ _
            refine hv_aload_n C dL_holds_319 0 rfl ?_
            refine hv_iconst C dL_holds_320 (v := zI (2)) rfl ?_
            refine hv_bipush C dL_holds_321 (v := zI (6)) (by decide +kernel) ?_
            refine hv_iconst C dL_holds_323 (v := zI (0)) rfl ?_
            refine hv_iconst C dL_holds_324 (v := zI (0)) rfl ?_
            refine hz_callS (As := [.ref (a 0), .int (zI (2)), .int (zI (6)), .int (zI (0)), .int (zI (0))]) (rest := []) (wc := ob_W dA a L v) (wr := []) C X (k_C_about_r l D dA sa hst a L v hJ hv1 (6) (by decide) (0) (0) hv2) (va_cwS 5 C.1.2.2.2.2 (hw_S tw_m_RL_132 tw_t_L_call tw_n_RL tw_k_L_call) rfl rfl rfl (by decide +kernel) ⟨Nat.le_of_ble_eq_true rfl, Nat.le_of_ble_eq_true rfl⟩) (List.Perm.of_eq (List.append_nil _).symm) rfl rfl (Nat.le_of_ble_eq_true rfl) dL_holds_325 ⟨Nat.le_of_ble_eq_true rfl, Nat.le_of_ble_eq_true rfl⟩ (fun u5 hu5 => ?_)
            have haj5 := ob_pj hu5 hv2
            refine hv_weq (ws' := ob_W dA a L u5) (List.append_nil _) ?_
            refine hv_eqst (st' := [.int (zI (an_about L (6)))]) rfl ?_
            refine hv_topi (y := zI (1)) (by rw [show an_about L (6) = 1 from (an_abo6 L).trans (zB_T (by omega))]) ?_
            refine hv_istore C dL_holds_328 (lw := [(11, .int (zI (1))), (0, .ref (a 0)), (1, .int (zI (lg L 0))), (2, .int (zI (lg L 5))), (3, .int (zI (ox_w (lg L)))), (4, .int (zI (wo_best (gS (lg L)) (gW (lg L)) (gR (lg L)) (gH (lg L))))), (5, .int (zI ((sp_lv (gH (lg L)) : Int)))), (6, .int (zI (lg L 0 - (sp_lc (gH (lg L)) : Int)))), (7, .int (zI (((gH (lg L)) : Int)))), (8, .int (zI ((wo_cnt (wo_can (gH (lg L))) (wo_cls (gS (lg L)) (gR (lg L))) : Int)))), (9, .int (zI ((wo_cnt (wo_isb (gS (lg L)) (gW (lg L)) (gR (lg L)) (gH (lg L))) (wo_cls (gS (lg L)) (gR (lg L))) : Int)))), (10, .int (zI (1)))]) (by decide) rfl ?_
            refine hv_aload_n C dL_holds_330 1 rfl ?_
            refine hv_iconst C dL_holds_331 (v := zI (2)) rfl ?_
            refine hv_iconst C dL_holds_332 (v := zI (4)) rfl ?_
            refine hv_iconst C dL_holds_333 (v := zI (0)) rfl ?_
            refine hv_iconst C dL_holds_334 (v := zI (0)) rfl ?_
            refine hz_callS (As := [.ref (a 0), .int (zI (2)), .int (zI (4)), .int (zI (0)), .int (zI (0))]) (rest := []) (wc := ob_W dA a L u5) (wr := []) C X (k_C_about_r l D dA sa hst a L u5 hJ hu5.1 (4) (by decide) (0) (0) haj5) (va_cwS 5 C.1.2.2.2.2 (hw_S tw_m_RL_132 tw_t_L_call tw_n_RL tw_k_L_call) rfl rfl rfl (by decide +kernel) ⟨Nat.le_of_ble_eq_true rfl, Nat.le_of_ble_eq_true rfl⟩) (List.Perm.of_eq (List.append_nil _).symm) rfl rfl (Nat.le_of_ble_eq_true rfl) dL_holds_335 ⟨Nat.le_of_ble_eq_true rfl, Nat.le_of_ble_eq_true rfl⟩ (fun u6 hu6 => ?_)
            have haj6 := ob_pj hu6 haj5
            refine hv_weq (ws' := ob_W dA a L u6) (List.append_nil _) ?_
            refine hv_eqst (st' := [.int (zI (an_about L (4)))]) rfl ?_
            refine hv_topi (y := zI (lg L 3)) (by rw [show an_about L (4) = lg L 3 from an_abo4 L]) ?_
            refine hv_istore C dL_holds_338 (lw := [(12, .int (zI (lg L 3))), (11, .int (zI (1))), (0, .ref (a 0)), (1, .int (zI (lg L 0))), (2, .int (zI (lg L 5))), (3, .int (zI (ox_w (lg L)))), (4, .int (zI (wo_best (gS (lg L)) (gW (lg L)) (gR (lg L)) (gH (lg L))))), (5, .int (zI ((sp_lv (gH (lg L)) : Int)))), (6, .int (zI (lg L 0 - (sp_lc (gH (lg L)) : Int)))), (7, .int (zI (((gH (lg L)) : Int)))), (8, .int (zI ((wo_cnt (wo_can (gH (lg L))) (wo_cls (gS (lg L)) (gR (lg L))) : Int)))), (9, .int (zI ((wo_cnt (wo_isb (gS (lg L)) (gW (lg L)) (gR (lg L)) (gH (lg L))) (wo_cls (gS (lg L)) (gR (lg L))) : Int)))), (10, .int (zI (1)))]) (by decide) rfl ?_
            refine hv_aload_n C dL_holds_340 2 rfl ?_
            refine hv_iconst C dL_holds_341 (v := zI (4)) rfl ?_
            refine hv_iconst C dL_holds_342 (v := zI (1)) rfl ?_
            refine hv_iload C dL_holds_343 0 rfl ?_
            refine hv_isub C dL_holds_345 (z := zI (1 - lg L 3)) ((zI_sub _ _).trans (zI_c (by omega))) ?_
            refine hv_iconst C dL_holds_346 (v := zI (0)) rfl ?_
            refine hv_iconst C dL_holds_347 (v := zI (0)) rfl ?_
            refine hz_callS (As := [.ref (a 0), .int (zI (4)), .int (zI (1 - lg L 3)), .int (zI (0)), .int (zI (0))]) (rest := []) (wc := ob_W dA a L u6) (wr := []) C X (k_C_who l D dA sa hst a L u6 hJ hu6.1 (1 - lg L 3) (by omega) (0) (by decide) (0)) (va_cwS 5 C.1.2.2.2.2 (hw_S tw_m_RL_132 tw_t_L_call tw_n_RL tw_k_L_call) rfl rfl rfl (by decide +kernel) ⟨Nat.le_of_ble_eq_true rfl, Nat.le_of_ble_eq_true rfl⟩) (List.Perm.of_eq (List.append_nil _).symm) rfl rfl (Nat.le_of_ble_eq_true rfl) dL_holds_348 ⟨Nat.le_of_ble_eq_true rfl, Nat.le_of_ble_eq_true rfl⟩ (fun u7 hu7 => ?_)
            have haj7 := ob_pj hu7 haj6
            refine hv_weq (ws' := ob_W dA a L u7) (List.append_nil _) ?_
            refine hv_eqst (st' := [.int (zI (an_who L (1 - lg L 3) (0)))]) rfl ?_
            refine hv_topi (y := zI (if 1 - lg L 3 = 0 then lg L 6 else lg L 7)) (by rw [show an_who L (1 - lg L 3) (0) = if 1 - lg L 3 = 0 then lg L 6 else lg L 7 from an_who0 L (by omega)]) ?_
            refine hv_aload_n C dL_holds_351 2 rfl ?_
            refine hv_iconst C dL_holds_352 (v := zI (4)) rfl ?_
            refine hv_iload C dL_holds_353 0 rfl ?_
            refine hv_iconst C dL_holds_355 (v := zI (0)) rfl ?_
            refine hv_iconst C dL_holds_356 (v := zI (0)) rfl ?_
            refine hz_callS (As := [.ref (a 0), .int (zI (4)), .int (zI (lg L 3)), .int (zI (0)), .int (zI (0))]) (rest := [.int (zI (if 1 - lg L 3 = 0 then lg L 6 else lg L 7))]) (wc := ob_W dA a L u7) (wr := []) C X (k_C_who l D dA sa hst a L u7 hJ hu7.1 (lg L 3) (by omega) (0) (by decide) (0)) (va_cwS 5 C.1.2.2.2.2 (hw_S tw_m_RL_132 tw_t_L_call tw_n_RL tw_k_L_call) rfl rfl rfl (by decide +kernel) ⟨Nat.le_of_ble_eq_true rfl, Nat.le_of_ble_eq_true rfl⟩) (List.Perm.of_eq (List.append_nil _).symm) rfl rfl (Nat.le_of_ble_eq_true rfl) dL_holds_357 ⟨Nat.le_of_ble_eq_true rfl, Nat.le_of_ble_eq_true rfl⟩ (fun u8 hu8 => ?_)
            have haj8 := ob_pj hu8 haj7
            refine hv_weq (ws' := ob_W dA a L u8) (List.append_nil _) ?_
            refine hv_eqst (st' := [.int (zI (an_who L (lg L 3) (0))), .int (zI (if 1 - lg L 3 = 0 then lg L 6 else lg L 7))]) rfl ?_
            refine hv_topi (y := zI (if lg L 3 = 0 then lg L 6 else lg L 7)) (by rw [show an_who L (lg L 3) (0) = if lg L 3 = 0 then lg L 6 else lg L 7 from an_who0 L (by omega)]) ?_
            refine hv_isub C dL_holds_360 (z := zI ((if 1 - lg L 3 = 0 then lg L 6 else lg L 7) - (if lg L 3 = 0 then lg L 6 else lg L 7))) ((zI_sub _ _).trans (zI_c (by rfl))) ?_
            refine hv_iload_n C dL_holds_361 5 rfl ?_
            refine hv_iadd C dL_holds_362 (z := zI (ox_ahead (lg L))) ((zI_add _ _).trans (zI_c (by exact hd_by hg3))) ?_
            refine hv_istore C dL_holds_363 (lw := [(13, .int (zI (ox_ahead (lg L)))), (12, .int (zI (lg L 3))), (11, .int (zI (1))), (0, .ref (a 0)), (1, .int (zI (lg L 0))), (2, .int (zI (lg L 5))), (3, .int (zI (ox_w (lg L)))), (4, .int (zI (wo_best (gS (lg L)) (gW (lg L)) (gR (lg L)) (gH (lg L))))), (5, .int (zI ((sp_lv (gH (lg L)) : Int)))), (6, .int (zI (lg L 0 - (sp_lc (gH (lg L)) : Int)))), (7, .int (zI (((gH (lg L)) : Int)))), (8, .int (zI ((wo_cnt (wo_can (gH (lg L))) (wo_cls (gS (lg L)) (gR (lg L))) : Int)))), (9, .int (zI ((wo_cnt (wo_isb (gS (lg L)) (gW (lg L)) (gR (lg L)) (gH (lg L))) (wo_cls (gS (lg L)) (gR (lg L))) : Int)))), (10, .int (zI (1)))]) (by decide) rfl ?_
            refine hv_aload_n C dL_holds_365 3 rfl ?_
            refine hv_bipush C dL_holds_366 (v := zI (12)) (by decide +kernel) ?_
            refine hv_bipush C dL_holds_368 (v := zI (18)) (by decide +kernel) ?_
            refine hv_iconst C dL_holds_370 (v := zI (1)) rfl ?_
            refine hv_iconst C dL_holds_371 (v := zI (0)) rfl ?_
            refine hz_callS (As := [.ref (a 0), .int (zI (12)), .int (zI (18)), .int (zI (1)), .int (zI (0))]) (rest := []) (wc := ob_W dA a L u8) (wr := []) C X (k_C_goes l D dA sa hst a L u8 hJ hu8.1 (18) (by decide) (1) (by decide) (0) haj8) (va_cwS 5 C.1.2.2.2.2 (hw_S tw_m_RL_132 tw_t_L_call tw_n_RL tw_k_L_call) rfl rfl rfl (by decide +kernel) ⟨Nat.le_of_ble_eq_true rfl, Nat.le_of_ble_eq_true rfl⟩) (List.Perm.of_eq (List.append_nil _).symm) rfl rfl (Nat.le_of_ble_eq_true rfl) dL_holds_372 ⟨Nat.le_of_ble_eq_true rfl, Nat.le_of_ble_eq_true rfl⟩ (fun u9 hu9 => ?_)
            have haj9 := ob_pj hu9 haj8
            refine hv_weq (ws' := ob_W dA a L u9) (List.append_nil _) ?_
            refine hv_eqst (st' := [.int (zI (an_goes L (18) (1)))]) rfl ?_
            refine hv_topi (y := zI (((ox_go (lg L) 18 (gH (lg L)) 0).2 : Int))) (by rw [show an_goes L (18) (1) = ((ox_go (lg L) 18 (gH (lg L)) 0).2 : Int) from an_goes1 L]) ?_
            refine hv_istore C dL_holds_375 (lw := [(14, .int (zI (((ox_go (lg L) 18 (gH (lg L)) 0).2 : Int)))), (13, .int (zI (ox_ahead (lg L)))), (12, .int (zI (lg L 3))), (11, .int (zI (1))), (0, .ref (a 0)), (1, .int (zI (lg L 0))), (2, .int (zI (lg L 5))), (3, .int (zI (ox_w (lg L)))), (4, .int (zI (wo_best (gS (lg L)) (gW (lg L)) (gR (lg L)) (gH (lg L))))), (5, .int (zI ((sp_lv (gH (lg L)) : Int)))), (6, .int (zI (lg L 0 - (sp_lc (gH (lg L)) : Int)))), (7, .int (zI (((gH (lg L)) : Int)))), (8, .int (zI ((wo_cnt (wo_can (gH (lg L))) (wo_cls (gS (lg L)) (gR (lg L))) : Int)))), (9, .int (zI ((wo_cnt (wo_isb (gS (lg L)) (gW (lg L)) (gR (lg L)) (gH (lg L))) (wo_cls (gS (lg L)) (gR (lg L))) : Int)))), (10, .int (zI (1)))]) (by decide) rfl ?_
            refine hv_iload C dL_holds_377 14 rfl ?_
            refine hv_if_eq C dL_holds_379 (tgt := 604) (by decide) (zI_eq0 (by omega)) (fun hc379 => ?_) (fun hc379 => ?_)
            · exact absurd hc379 (by omega)
            · refine hv_aload_n C dL_holds_382 4 rfl ?_
              refine hv_iconst C dL_holds_383 (v := zI (2)) rfl ?_
              refine hv_iconst C dL_holds_384 (v := zI (1)) rfl ?_
              refine hv_iconst C dL_holds_385 (v := zI (0)) rfl ?_
              refine hv_iconst C dL_holds_386 (v := zI (0)) rfl ?_
              refine hz_callS (As := [.ref (a 0), .int (zI (2)), .int (zI (1)), .int (zI (0)), .int (zI (0))]) (rest := []) (wc := ob_W dA a L u9) (wr := []) C X (k_C_about_r l D dA sa hst a L u9 hJ hu9.1 (1) (by decide) (0) (0) haj9) (va_cwS 5 C.1.2.2.2.2 (hw_S tw_m_RL_132 tw_t_L_call tw_n_RL tw_k_L_call) rfl rfl rfl (by decide +kernel) ⟨Nat.le_of_ble_eq_true rfl, Nat.le_of_ble_eq_true rfl⟩) (List.Perm.of_eq (List.append_nil _).symm) rfl rfl (Nat.le_of_ble_eq_true rfl) dL_holds_387 ⟨Nat.le_of_ble_eq_true rfl, Nat.le_of_ble_eq_true rfl⟩ (fun u10 hu10 => ?_)
              have haj10 := ob_pj hu10 haj9
              refine hv_weq (ws' := ob_W dA a L u10) (List.append_nil _) ?_
              refine hv_eqst (st' := [.int (zI (an_about L (1)))]) rfl ?_
              refine hv_topi (y := zI ((sp_lv (gH (lg L)) : Int))) (by rw [show an_about L (1) = (sp_lv (gH (lg L)) : Int) from an_abo1 L]) ?_
              refine hv_iload C dL_holds_390 9 rfl ?_
              refine hv_icmp_ne C dL_holds_392 (tgt := 604) (by decide) Iff.rfl (fun hc392 => ?_) (fun hc392 => ?_)
              · exact absurd hc392 (by exact fun q => q rfl)
              · refine hv_aload_n C dL_holds_395 4 rfl ?_
                refine hv_iconst C dL_holds_396 (v := zI (2)) rfl ?_
                refine hv_iconst C dL_holds_397 (v := zI (2)) rfl ?_
                refine hv_iconst C dL_holds_398 (v := zI (0)) rfl ?_
                refine hv_iconst C dL_holds_399 (v := zI (0)) rfl ?_
                refine hz_callS (As := [.ref (a 0), .int (zI (2)), .int (zI (2)), .int (zI (0)), .int (zI (0))]) (rest := []) (wc := ob_W dA a L u10) (wr := []) C X (k_C_about_r l D dA sa hst a L u10 hJ hu10.1 (2) (by decide) (0) (0) haj10) (va_cwS 5 C.1.2.2.2.2 (hw_S tw_m_RL_132 tw_t_L_call tw_n_RL tw_k_L_call) rfl rfl rfl (by decide +kernel) ⟨Nat.le_of_ble_eq_true rfl, Nat.le_of_ble_eq_true rfl⟩) (List.Perm.of_eq (List.append_nil _).symm) rfl rfl (Nat.le_of_ble_eq_true rfl) dL_holds_400 ⟨Nat.le_of_ble_eq_true rfl, Nat.le_of_ble_eq_true rfl⟩ (fun u11 hu11 => ?_)
                have haj11 := ob_pj hu11 haj10
                refine hv_weq (ws' := ob_W dA a L u11) (List.append_nil _) ?_
                refine hv_eqst (st' := [.int (zI (an_about L (2)))]) rfl ?_
                refine hv_topi (y := zI (lg L 0 - (sp_lc (gH (lg L)) : Int))) (by rw [show an_about L (2) = lg L 0 - (sp_lc (gH (lg L)) : Int) from an_abo2 L]) ?_
                refine hv_iload C dL_holds_403 10 rfl ?_
                refine hv_icmp_ne C dL_holds_405 (tgt := 604) (by decide) Iff.rfl (fun hc405 => ?_) (fun hc405 => ?_)
                · exact absurd hc405 (by exact fun q => q rfl)
                · refine hv_aload_n C dL_holds_408 4 rfl ?_
                  refine hv_iconst C dL_holds_409 (v := zI (2)) rfl ?_
                  refine hv_bipush C dL_holds_410 (v := zI (7)) (by decide +kernel) ?_
                  refine hv_iconst C dL_holds_412 (v := zI (0)) rfl ?_
                  refine hv_iconst C dL_holds_413 (v := zI (0)) rfl ?_
                  refine hz_callS (As := [.ref (a 0), .int (zI (2)), .int (zI (7)), .int (zI (0)), .int (zI (0))]) (rest := []) (wc := ob_W dA a L u11) (wr := []) C X (k_C_about_r l D dA sa hst a L u11 hJ hu11.1 (7) (by decide) (0) (0) haj11) (va_cwS 5 C.1.2.2.2.2 (hw_S tw_m_RL_132 tw_t_L_call tw_n_RL tw_k_L_call) rfl rfl rfl (by decide +kernel) ⟨Nat.le_of_ble_eq_true rfl, Nat.le_of_ble_eq_true rfl⟩) (List.Perm.of_eq (List.append_nil _).symm) rfl rfl (Nat.le_of_ble_eq_true rfl) dL_holds_414 ⟨Nat.le_of_ble_eq_true rfl, Nat.le_of_ble_eq_true rfl⟩ (fun u12 hu12 => ?_)
                  have haj12 := ob_pj hu12 haj11
                  refine hv_weq (ws' := ob_W dA a L u12) (List.append_nil _) ?_
                  refine hv_eqst (st' := [.int (zI (an_about L (7)))]) rfl ?_
                  refine hv_topi (y := zI (((gH (lg L)) : Int))) (by rw [show an_about L (7) = ((gH (lg L)) : Int) from (an_abo7 L).trans e1]) ?_
                  refine hv_iload C dL_holds_417 11 rfl ?_
                  refine hv_icmp_ne C dL_holds_419 (tgt := 604) (by decide) Iff.rfl (fun hc419 => ?_) (fun hc419 => ?_)
                  · exact absurd hc419 (by exact fun q => q rfl)
                  · refine hv_aload_n C dL_holds_422 4 rfl ?_
                    refine hv_iconst C dL_holds_423 (v := zI (2)) rfl ?_
                    refine hv_bipush C dL_holds_424 (v := zI (8)) (by decide +kernel) ?_
                    refine hv_iconst C dL_holds_426 (v := zI (0)) rfl ?_
                    refine hv_iconst C dL_holds_427 (v := zI (0)) rfl ?_
                    refine hz_callS (As := [.ref (a 0), .int (zI (2)), .int (zI (8)), .int (zI (0)), .int (zI (0))]) (rest := []) (wc := ob_W dA a L u12) (wr := []) C X (k_C_about_r l D dA sa hst a L u12 hJ hu12.1 (8) (by decide) (0) (0) haj12) (va_cwS 5 C.1.2.2.2.2 (hw_S tw_m_RL_132 tw_t_L_call tw_n_RL tw_k_L_call) rfl rfl rfl (by decide +kernel) ⟨Nat.le_of_ble_eq_true rfl, Nat.le_of_ble_eq_true rfl⟩) (List.Perm.of_eq (List.append_nil _).symm) rfl rfl (Nat.le_of_ble_eq_true rfl) dL_holds_428 ⟨Nat.le_of_ble_eq_true rfl, Nat.le_of_ble_eq_true rfl⟩ (fun u13 hu13 => ?_)
                    have haj13 := ob_pj hu13 haj12
                    refine hv_weq (ws' := ob_W dA a L u13) (List.append_nil _) ?_
                    refine hv_eqst (st' := [.int (zI (an_about L (8)))]) rfl ?_
                    refine hv_topi (y := zI ((wo_cnt (wo_can (gH (lg L))) (wo_cls (gS (lg L)) (gR (lg L))) : Int))) (by rw [show an_about L (8) = (wo_cnt (wo_can (gH (lg L))) (wo_cls (gS (lg L)) (gR (lg L))) : Int) from an_abo8 L]) ?_
                    refine hv_iload C dL_holds_431 12 rfl ?_
                    refine hv_icmp_ne C dL_holds_433 (tgt := 604) (by decide) Iff.rfl (fun hc433 => ?_) (fun hc433 => ?_)
                    · exact absurd hc433 (by exact fun q => q rfl)
                    · refine hv_aload_n C dL_holds_436 4 rfl ?_
                      refine hv_callV (As := []) (rest := []) (wc := ob_W dA a L u13) (wr := []) C (k_O_bestClips l D dA a L u13 hJ hu13.1 haj13) (cwV 0 C.1.2.2.2.2 (hw_V tw_m_RL_155 tw_i_X8_bestClips tw_s_X8_bestClips tw_n_RX8 tw_k_X8_bestClips) rfl rfl rfl (by decide +kernel) ⟨Nat.le_of_ble_eq_true rfl, Nat.le_of_ble_eq_true rfl⟩) (List.Perm.of_eq (List.append_nil _).symm) rfl 0 6 rfl rfl rfl (Nat.le_of_ble_eq_true rfl) dL_holds_437 ⟨Nat.le_of_ble_eq_true rfl, Nat.le_of_ble_eq_true rfl⟩ (fun u14 hu14 => ?_)
                      have haj14 := ob_pj hu14 haj13
                      refine hv_weq (ws' := ob_W dA a L u14) (List.append_nil _) ?_
                      refine hv_eqst (st' := [.int (zI ((wo_cnt (wo_isb (gS (lg L)) (gW (lg L)) (gR (lg L)) (gH (lg L))) (wo_cls (gS (lg L)) (gR (lg L))) : Int)))]) rfl ?_
                      refine hv_iload C dL_holds_440 13 rfl ?_
                      refine hv_icmp_ne C dL_holds_442 (tgt := 604) (by decide) Iff.rfl (fun hc442 => ?_) (fun hc442 => ?_)
                      · exact absurd hc442 (by exact fun q => q rfl)
                      · refine hv_iload C dL_holds_445 3 rfl ?_
                        refine hv_iconst C dL_holds_447 (v := zI (1)) rfl ?_
                        refine hv_icmp_ne C dL_holds_448 (tgt := 455) (by decide) (zI_ne (by omega)) (fun hc448 => ?_) (fun hc448 => ?_)
                        · exact absurd hc448 (by omega)
                        · refine hv_iconst C dL_holds_451 (v := zI (1)) rfl ?_
                          refine hv_goto C dL_holds_452 (tgt := 456) (by decide) ?_
                          refine hv_iload C dL_holds_456 9 rfl ?_
                          refine hv_if_ne C dL_holds_458 (tgt := 465) (by decide) (zI_ne0 (by omega)) (fun hc458 => ?_) (fun hc458 => ?_)
                          · exact absurd hc458 (by omega)
                          · refine hv_iconst C dL_holds_461 (v := zI (1)) rfl ?_
                            refine hv_goto C dL_holds_462 (tgt := 466) (by decide) ?_
                            refine hv_icmp_ne C dL_holds_466 (tgt := 604) (by decide) (zI_ne (by omega)) (fun hc466 => ?_) (fun hc466 => ?_)
                            · exact absurd hc466 (by omega)
                            · refine hv_iload C dL_holds_469 8 rfl ?_
                              refine hv_iconst C dL_holds_471 (v := zI (-1)) rfl ?_
                              refine hv_icmp_ne C dL_holds_472 (tgt := 479) (by decide) (zI_ne (by omega)) (fun hc472 => ?_) (fun hc472 => ?_)
                              · exact absurd hc472 (by omega)
                              · refine hv_iconst C dL_holds_475 (v := zI (1)) rfl ?_
                                refine hv_goto C dL_holds_476 (tgt := 480) (by decide) ?_
                                refine hv_iload C dL_holds_480 3 rfl ?_
                                refine hv_iconst C dL_holds_482 (v := zI (1)) rfl ?_
                                refine hv_icmp_ne C dL_holds_483 (tgt := 490) (by decide) (zI_ne (by omega)) (fun hc483 => ?_) (fun hc483 => ?_)
                                · exact absurd hc483 (by omega)
                                · refine hv_iconst C dL_holds_486 (v := zI (1)) rfl ?_
                                  refine hv_goto C dL_holds_487 (tgt := 491) (by decide) ?_
                                  refine hv_icmp_ne C dL_holds_491 (tgt := 604) (by decide) (zI_ne (by omega)) (fun hc491 => ?_) (fun hc491 => ?_)
                                  · exact absurd hc491 (by omega)
                                  · refine hv_iload C dL_holds_494 3 rfl ?_
                                    refine hv_if_eq C dL_holds_496 (tgt := 508) (by decide) (zI_eq0 (by omega)) (fun hc496 => ?_) (fun hc496 => ?_)
                                    · exact absurd hc496 (by omega)
                                    · refine hv_iload_n C dL_holds_499 7 rfl ?_
                                      refine hv_if_ne C dL_holds_500 (tgt := 604) (by decide) (zI_ne0 (by omega)) (fun hc500 => ?_) (fun hc500 => ?_)
                                      · exact absurd hc500 (by omega)
                                      · refine hv_iload C dL_holds_503 12 rfl ?_
                                        refine hv_if_ne C dL_holds_505 (tgt := 604) (by decide) (zI_ne0 (by omega)) (fun hc505 => ?_) (fun hc505 => ?_)
                                        · exact absurd hc505 (by omega)
                                        · refine hv_aload_n C dL_holds_508 4 rfl ?_
                                          refine hv_iconst C dL_holds_509 (v := zI (2)) rfl ?_
                                          refine hv_iconst C dL_holds_510 (v := zI (5)) rfl ?_
                                          refine hv_iconst C dL_holds_511 (v := zI (0)) rfl ?_
                                          refine hv_iconst C dL_holds_512 (v := zI (0)) rfl ?_
                                          refine hz_callS (As := [.ref (a 0), .int (zI (2)), .int (zI (5)), .int (zI (0)), .int (zI (0))]) (rest := []) (wc := ob_W dA a L u14) (wr := []) C X (k_C_about_r l D dA sa hst a L u14 hJ hu14.1 (5) (by decide) (0) (0) haj14) (va_cwS 5 C.1.2.2.2.2 (hw_S tw_m_RL_132 tw_t_L_call tw_n_RL tw_k_L_call) rfl rfl rfl (by decide +kernel) ⟨Nat.le_of_ble_eq_true rfl, Nat.le_of_ble_eq_true rfl⟩) (List.Perm.of_eq (List.append_nil _).symm) rfl rfl (Nat.le_of_ble_eq_true rfl) dL_holds_513 ⟨Nat.le_of_ble_eq_true rfl, Nat.le_of_ble_eq_true rfl⟩ (fun u15 hu15 => ?_)
                                          have haj15 := ob_pj hu15 haj14
                                          refine hv_weq (ws' := ob_W dA a L u15) (List.append_nil _) ?_
                                          refine hv_eqst (st' := [.int (zI (an_about L (5)))]) rfl ?_
                                          refine hv_topi (y := zI (lg L 8 + lg L 9)) (by rw [show an_about L (5) = lg L 8 + lg L 9 from an_abo5 L]) ?_
                                          refine hv_aload_n C dL_holds_516 4 rfl ?_
                                          refine hv_iconst C dL_holds_517 (v := zI (4)) rfl ?_
                                          refine hv_iconst C dL_holds_518 (v := zI (0)) rfl ?_
                                          refine hv_iconst C dL_holds_519 (v := zI (1)) rfl ?_
                                          refine hv_iconst C dL_holds_520 (v := zI (0)) rfl ?_
                                          refine hz_callS (As := [.ref (a 0), .int (zI (4)), .int (zI (0)), .int (zI (1)), .int (zI (0))]) (rest := [.int (zI (lg L 8 + lg L 9))]) (wc := ob_W dA a L u15) (wr := []) C X (k_C_who l D dA sa hst a L u15 hJ hu15.1 (0) (by decide) (1) (by decide) (0)) (va_cwS 5 C.1.2.2.2.2 (hw_S tw_m_RL_132 tw_t_L_call tw_n_RL tw_k_L_call) rfl rfl rfl (by decide +kernel) ⟨Nat.le_of_ble_eq_true rfl, Nat.le_of_ble_eq_true rfl⟩) (List.Perm.of_eq (List.append_nil _).symm) rfl rfl (Nat.le_of_ble_eq_true rfl) dL_holds_521 ⟨Nat.le_of_ble_eq_true rfl, Nat.le_of_ble_eq_true rfl⟩ (fun u16 hu16 => ?_)
                                          have haj16 := ob_pj hu16 haj15
                                          refine hv_weq (ws' := ob_W dA a L u16) (List.append_nil _) ?_
                                          refine hv_eqst (st' := [.int (zI (an_who L (0) (1))), .int (zI (lg L 8 + lg L 9))]) rfl ?_
                                          refine hv_topi (y := zI (lg L 8)) (by rw [show an_who L (0) (1) = lg L 8 from (an_who1 L (by decide)).trans (if_pos rfl)]) ?_
                                          refine hv_aload_n C dL_holds_524 4 rfl ?_
                                          refine hv_iconst C dL_holds_525 (v := zI (4)) rfl ?_
                                          refine hv_iconst C dL_holds_526 (v := zI (1)) rfl ?_
                                          refine hv_iconst C dL_holds_527 (v := zI (1)) rfl ?_
                                          refine hv_iconst C dL_holds_528 (v := zI (0)) rfl ?_
                                          refine hz_callS (As := [.ref (a 0), .int (zI (4)), .int (zI (1)), .int (zI (1)), .int (zI (0))]) (rest := [.int (zI (lg L 8)), .int (zI (lg L 8 + lg L 9))]) (wc := ob_W dA a L u16) (wr := []) C X (k_C_who l D dA sa hst a L u16 hJ hu16.1 (1) (by decide) (1) (by decide) (0)) (va_cwS 5 C.1.2.2.2.2 (hw_S tw_m_RL_132 tw_t_L_call tw_n_RL tw_k_L_call) rfl rfl rfl (by decide +kernel) ⟨Nat.le_of_ble_eq_true rfl, Nat.le_of_ble_eq_true rfl⟩) (List.Perm.of_eq (List.append_nil _).symm) rfl rfl (Nat.le_of_ble_eq_true rfl) dL_holds_529 ⟨Nat.le_of_ble_eq_true rfl, Nat.le_of_ble_eq_true rfl⟩ (fun u17 hu17 => ?_)
                                          have haj17 := ob_pj hu17 haj16
                                          refine hv_weq (ws' := ob_W dA a L u17) (List.append_nil _) ?_
                                          refine hv_eqst (st' := [.int (zI (an_who L (1) (1))), .int (zI (lg L 8)), .int (zI (lg L 8 + lg L 9))]) rfl ?_
                                          refine hv_topi (y := zI (lg L 9)) (by rw [show an_who L (1) (1) = lg L 9 from (an_who1 L (by decide)).trans (if_neg (by decide))]) ?_
                                          refine hv_iadd C dL_holds_532 (z := zI (lg L 8 + lg L 9)) ((zI_add _ _).trans (zI_c (by rfl))) ?_
                                          refine hv_icmp_ne C dL_holds_533 (tgt := 604) (by decide) Iff.rfl (fun hc533 => ?_) (fun hc533 => ?_)
                                          · exact absurd hc533 (by exact fun q => q rfl)
                                          · refine hv_aload_n C dL_holds_536 4 rfl ?_
                                            refine hv_callV (As := []) (rest := []) (wc := ob_W dA a L u17) (wr := []) C (k_O_winner l D dA a L u17 hJ hu17.1 haj17) (cwV 0 C.1.2.2.2.2 (hw_V tw_m_RL_158 tw_i_X8_winner tw_s_X8_winner tw_n_RX8 tw_k_X8_winner) rfl rfl rfl (by decide +kernel) ⟨Nat.le_of_ble_eq_true rfl, Nat.le_of_ble_eq_true rfl⟩) (List.Perm.of_eq (List.append_nil _).symm) rfl 0 6 rfl rfl rfl (Nat.le_of_ble_eq_true rfl) dL_holds_537 ⟨Nat.le_of_ble_eq_true rfl, Nat.le_of_ble_eq_true rfl⟩ (fun u18 hu18 => ?_)
                                            have haj18 := ob_pj hu18 haj17
                                            refine hv_weq (ws' := ob_W dA a L u18) (List.append_nil _) ?_
                                            refine hv_eqst (st' := [.int (zI (ox_win (lg L)))]) rfl ?_
                                            refine hv_iload C dL_holds_540 1 rfl ?_
                                            refine hv_if_le C dL_holds_542 (tgt := 550) (by decide) Iff.rfl (fun hc542 => ?_) (fun hc542 => ?_)
                                            · refine hv_iload C dL_holds_550 1 rfl ?_
                                              refine hv_if_ge C dL_holds_552 (tgt := 562) (by decide) Iff.rfl (fun hc552 => ?_) (fun hc552 => ?_)
                                              · refine hv_iconst C dL_holds_562 (v := zI (2)) rfl ?_
                                                refine hv_icmp_ne C dL_holds_563 (tgt := 604) (by decide) Iff.rfl (fun hc563 => ?_) (fun hc563 => ?_)
                                                · exact absurd hc563 (by exact fun q => q (by rw [win_c3 hc542 hc552]))
                                                · refine hv_iload C dL_holds_566 0 rfl ?_
                                                  refine hv_iload C dL_holds_568 9 rfl ?_
                                                  refine hv_icmp_gt C dL_holds_570 (tgt := 604) (by decide) (zI_lt (by omega)) (fun hc570 => ?_) (fun hc570 => ?_)
                                                  · exact absurd hc570 (by omega)
                                                  · refine hv_iload C dL_holds_573 0 rfl ?_
                                                    refine hv_bipush C dL_holds_575 (v := zI (18)) (by decide +kernel) ?_
                                                    refine hv_icmp_gt C dL_holds_577 (tgt := 604) (by decide) (zI_lt (by omega)) (fun hc577 => ?_) (fun hc577 => ?_)
                                                    · exact absurd hc577 (by omega)
                                                    · refine hv_aload_n C dL_holds_580 4 rfl ?_
                                                      refine hv_bipush C dL_holds_581 (v := zI (12)) (by decide +kernel) ?_
                                                      refine hv_bipush C dL_holds_583 (v := zI (18)) (by decide +kernel) ?_
                                                      refine hv_iconst C dL_holds_585 (v := zI (0)) rfl ?_
                                                      refine hv_iconst C dL_holds_586 (v := zI (0)) rfl ?_
                                                      refine hz_callS (As := [.ref (a 0), .int (zI (12)), .int (zI (18)), .int (zI (0)), .int (zI (0))]) (rest := []) (wc := ob_W dA a L u18) (wr := []) C X (k_C_goes l D dA sa hst a L u18 hJ hu18.1 (18) (by decide) (0) (by decide) (0) haj18) (va_cwS 5 C.1.2.2.2.2 (hw_S tw_m_RL_132 tw_t_L_call tw_n_RL tw_k_L_call) rfl rfl rfl (by decide +kernel) ⟨Nat.le_of_ble_eq_true rfl, Nat.le_of_ble_eq_true rfl⟩) (List.Perm.of_eq (List.append_nil _).symm) rfl rfl (Nat.le_of_ble_eq_true rfl) dL_holds_587 ⟨Nat.le_of_ble_eq_true rfl, Nat.le_of_ble_eq_true rfl⟩ (fun u19 hu19 => ?_)
                                                      have haj19 := ob_pj hu19 haj18
                                                      refine hv_weq (ws' := ob_W dA a L u19) (List.append_nil _) ?_
                                                      refine hv_eqst (st' := [.int (zI (an_goes L (18) (0)))]) rfl ?_
                                                      refine hv_topi (y := zI (((ox_go (lg L) 18 (gH (lg L)) 0).1 : Int))) (by rw [show an_goes L (18) (0) = ((ox_go (lg L) 18 (gH (lg L)) 0).1 : Int) from an_goes0 L]) ?_
                                                      refine hv_if_eq C dL_holds_590 (tgt := 600) (by decide) (zI_eq0 (by omega)) (fun hc590 => ?_) (fun hc590 => ?_)
                                                      · refine hv_iconst C dL_holds_600 (v := zI (1)) rfl ?_
                                                        refine hv_goto C dL_holds_601 (tgt := 605) (by decide) ?_
                                                        exact hv_iret C M dL_holds_605 rfl zB_n1 u19 ⟨hu19.1, haj19⟩ rfl [] (List.Perm.of_eq (List.append_nil _).symm) (Nat.le_of_ble_eq_true rfl) (Nat.le_of_ble_eq_true rfl)
                                                      · refine hv_iload C dL_holds_593 0 rfl ?_
                                                        refine hv_bipush C dL_holds_595 (v := zI (18)) (by decide +kernel) ?_
                                                        refine hv_icmp_ne C dL_holds_597 (tgt := 604) (by decide) (zI_ne (by omega)) (fun hc597 => ?_) (fun hc597 => ?_)
                                                        · exact absurd hc597 (by omega)
                                                        · refine hv_iconst C dL_holds_600 (v := zI (1)) rfl ?_
                                                          refine hv_goto C dL_holds_601 (tgt := 605) (by decide) ?_
                                                          exact hv_iret C M dL_holds_605 rfl zB_n1 u19 ⟨hu19.1, haj19⟩ rfl [] (List.Perm.of_eq (List.append_nil _).symm) (Nat.le_of_ble_eq_true rfl) (Nat.le_of_ble_eq_true rfl)
                                              · refine hv_iconst C dL_holds_555 (v := zI (1)) rfl ?_
                                                refine hv_iload C dL_holds_556 2 rfl ?_
                                                refine hv_isub C dL_holds_558 (z := zI (1 - lg L 3)) ((zI_sub _ _).trans (zI_c (by omega))) ?_
                                                refine hv_goto C dL_holds_559 (tgt := 563) (by decide) ?_
                                                refine hv_icmp_ne C dL_holds_563 (tgt := 604) (by decide) Iff.rfl (fun hc563 => ?_) (fun hc563 => ?_)
                                                · exact absurd hc563 (by exact fun q => q (by rw [win_c2 hc552]))
                                                · refine hv_iload C dL_holds_566 0 rfl ?_
                                                  refine hv_iload C dL_holds_568 9 rfl ?_
                                                  refine hv_icmp_gt C dL_holds_570 (tgt := 604) (by decide) (zI_lt (by omega)) (fun hc570 => ?_) (fun hc570 => ?_)
                                                  · exact absurd hc570 (by omega)
                                                  · refine hv_iload C dL_holds_573 0 rfl ?_
                                                    refine hv_bipush C dL_holds_575 (v := zI (18)) (by decide +kernel) ?_
                                                    refine hv_icmp_gt C dL_holds_577 (tgt := 604) (by decide) (zI_lt (by omega)) (fun hc577 => ?_) (fun hc577 => ?_)
                                                    · exact absurd hc577 (by omega)
                                                    · refine hv_aload_n C dL_holds_580 4 rfl ?_
                                                      refine hv_bipush C dL_holds_581 (v := zI (12)) (by decide +kernel) ?_
                                                      refine hv_bipush C dL_holds_583 (v := zI (18)) (by decide +kernel) ?_
                                                      refine hv_iconst C dL_holds_585 (v := zI (0)) rfl ?_
                                                      refine hv_iconst C dL_holds_586 (v := zI (0)) rfl ?_
                                                      refine hz_callS (As := [.ref (a 0), .int (zI (12)), .int (zI (18)), .int (zI (0)), .int (zI (0))]) (rest := []) (wc := ob_W dA a L u18) (wr := []) C X (k_C_goes l D dA sa hst a L u18 hJ hu18.1 (18) (by decide) (0) (by decide) (0) haj18) (va_cwS 5 C.1.2.2.2.2 (hw_S tw_m_RL_132 tw_t_L_call tw_n_RL tw_k_L_call) rfl rfl rfl (by decide +kernel) ⟨Nat.le_of_ble_eq_true rfl, Nat.le_of_ble_eq_true rfl⟩) (List.Perm.of_eq (List.append_nil _).symm) rfl rfl (Nat.le_of_ble_eq_true rfl) dL_holds_587 ⟨Nat.le_of_ble_eq_true rfl, Nat.le_of_ble_eq_true rfl⟩ (fun u20 hu20 => ?_)
                                                      have haj20 := ob_pj hu20 haj18
                                                      refine hv_weq (ws' := ob_W dA a L u20) (List.append_nil _) ?_
                                                      refine hv_eqst (st' := [.int (zI (an_goes L (18) (0)))]) rfl ?_
                                                      refine hv_topi (y := zI (((ox_go (lg L) 18 (gH (lg L)) 0).1 : Int))) (by rw [show an_goes L (18) (0) = ((ox_go (lg L) 18 (gH (lg L)) 0).1 : Int) from an_goes0 L]) ?_
                                                      refine hv_if_eq C dL_holds_590 (tgt := 600) (by decide) (zI_eq0 (by omega)) (fun hc590 => ?_) (fun hc590 => ?_)
                                                      · refine hv_iconst C dL_holds_600 (v := zI (1)) rfl ?_
                                                        refine hv_goto C dL_holds_601 (tgt := 605) (by decide) ?_
                                                        exact hv_iret C M dL_holds_605 rfl zB_n1 u20 ⟨hu20.1, haj20⟩ rfl [] (List.Perm.of_eq (List.append_nil _).symm) (Nat.le_of_ble_eq_true rfl) (Nat.le_of_ble_eq_true rfl)
                                                      · refine hv_iload C dL_holds_593 0 rfl ?_
                                                        refine hv_bipush C dL_holds_595 (v := zI (18)) (by decide +kernel) ?_
                                                        refine hv_icmp_ne C dL_holds_597 (tgt := 604) (by decide) (zI_ne (by omega)) (fun hc597 => ?_) (fun hc597 => ?_)
                                                        · exact absurd hc597 (by omega)
                                                        · refine hv_iconst C dL_holds_600 (v := zI (1)) rfl ?_
                                                          refine hv_goto C dL_holds_601 (tgt := 605) (by decide) ?_
                                                          exact hv_iret C M dL_holds_605 rfl zB_n1 u20 ⟨hu20.1, haj20⟩ rfl [] (List.Perm.of_eq (List.append_nil _).symm) (Nat.le_of_ble_eq_true rfl) (Nat.le_of_ble_eq_true rfl)
                                            · refine hv_iload C dL_holds_545 2 rfl ?_
                                              refine hv_goto C dL_holds_547 (tgt := 563) (by decide) ?_
                                              refine hv_icmp_ne C dL_holds_563 (tgt := 604) (by decide) Iff.rfl (fun hc563 => ?_) (fun hc563 => ?_)
                                              · exact absurd hc563 (by exact fun q => q (by rw [win_c1 hc542]))
                                              · refine hv_iload C dL_holds_566 0 rfl ?_
                                                refine hv_iload C dL_holds_568 9 rfl ?_
                                                refine hv_icmp_gt C dL_holds_570 (tgt := 604) (by decide) (zI_lt (by omega)) (fun hc570 => ?_) (fun hc570 => ?_)
                                                · exact absurd hc570 (by omega)
                                                · refine hv_iload C dL_holds_573 0 rfl ?_
                                                  refine hv_bipush C dL_holds_575 (v := zI (18)) (by decide +kernel) ?_
                                                  refine hv_icmp_gt C dL_holds_577 (tgt := 604) (by decide) (zI_lt (by omega)) (fun hc577 => ?_) (fun hc577 => ?_)
                                                  · exact absurd hc577 (by omega)
                                                  · refine hv_aload_n C dL_holds_580 4 rfl ?_
                                                    refine hv_bipush C dL_holds_581 (v := zI (12)) (by decide +kernel) ?_
                                                    refine hv_bipush C dL_holds_583 (v := zI (18)) (by decide +kernel) ?_
                                                    refine hv_iconst C dL_holds_585 (v := zI (0)) rfl ?_
                                                    refine hv_iconst C dL_holds_586 (v := zI (0)) rfl ?_
                                                    refine hz_callS (As := [.ref (a 0), .int (zI (12)), .int (zI (18)), .int (zI (0)), .int (zI (0))]) (rest := []) (wc := ob_W dA a L u18) (wr := []) C X (k_C_goes l D dA sa hst a L u18 hJ hu18.1 (18) (by decide) (0) (by decide) (0) haj18) (va_cwS 5 C.1.2.2.2.2 (hw_S tw_m_RL_132 tw_t_L_call tw_n_RL tw_k_L_call) rfl rfl rfl (by decide +kernel) ⟨Nat.le_of_ble_eq_true rfl, Nat.le_of_ble_eq_true rfl⟩) (List.Perm.of_eq (List.append_nil _).symm) rfl rfl (Nat.le_of_ble_eq_true rfl) dL_holds_587 ⟨Nat.le_of_ble_eq_true rfl, Nat.le_of_ble_eq_true rfl⟩ (fun u21 hu21 => ?_)
                                                    have haj21 := ob_pj hu21 haj18
                                                    refine hv_weq (ws' := ob_W dA a L u21) (List.append_nil _) ?_
                                                    refine hv_eqst (st' := [.int (zI (an_goes L (18) (0)))]) rfl ?_
                                                    refine hv_topi (y := zI (((ox_go (lg L) 18 (gH (lg L)) 0).1 : Int))) (by rw [show an_goes L (18) (0) = ((ox_go (lg L) 18 (gH (lg L)) 0).1 : Int) from an_goes0 L]) ?_
                                                    refine hv_if_eq C dL_holds_590 (tgt := 600) (by decide) (zI_eq0 (by omega)) (fun hc590 => ?_) (fun hc590 => ?_)
                                                    · refine hv_iconst C dL_holds_600 (v := zI (1)) rfl ?_
                                                      refine hv_goto C dL_holds_601 (tgt := 605) (by decide) ?_
                                                      exact hv_iret C M dL_holds_605 rfl zB_n1 u21 ⟨hu21.1, haj21⟩ rfl [] (List.Perm.of_eq (List.append_nil _).symm) (Nat.le_of_ble_eq_true rfl) (Nat.le_of_ble_eq_true rfl)
                                                    · refine hv_iload C dL_holds_593 0 rfl ?_
                                                      refine hv_bipush C dL_holds_595 (v := zI (18)) (by decide +kernel) ?_
                                                      refine hv_icmp_ne C dL_holds_597 (tgt := 604) (by decide) (zI_ne (by omega)) (fun hc597 => ?_) (fun hc597 => ?_)
                                                      · exact absurd hc597 (by omega)
                                                      · refine hv_iconst C dL_holds_600 (v := zI (1)) rfl ?_
                                                        refine hv_goto C dL_holds_601 (tgt := 605) (by decide) ?_
                                                        exact hv_iret C M dL_holds_605 rfl zB_n1 u21 ⟨hu21.1, haj21⟩ rfl [] (List.Perm.of_eq (List.append_nil _).symm) (Nat.le_of_ble_eq_true rfl) (Nat.le_of_ble_eq_true rfl)
          · have hlv0 := sp_lv0 (gH (lg L)) hx12 h0
            obtain ⟨bb, hb1, hb2, hb3, hb4, hb5, hb6⟩ := wo_best_pos (w := (gW (lg L))) hS hR hg.H h0
            have hbo := ob_bok hS hR hb1
            refine hv_aload_n C dL_holds_319 0 rfl ?_
            refine hv_iconst C dL_holds_320 (v := zI (2)) rfl ?_
            refine hv_bipush C dL_holds_321 (v := zI (6)) (by decide +kernel) ?_
            refine hv_iconst C dL_holds_323 (v := zI (0)) rfl ?_
            refine hv_iconst C dL_holds_324 (v := zI (0)) rfl ?_
            refine hz_callS (As := [.ref (a 0), .int (zI (2)), .int (zI (6)), .int (zI (0)), .int (zI (0))]) (rest := []) (wc := ob_W dA a L v) (wr := []) C X (k_C_about_r l D dA sa hst a L v hJ hv1 (6) (by decide) (0) (0) hv2) (va_cwS 5 C.1.2.2.2.2 (hw_S tw_m_RL_132 tw_t_L_call tw_n_RL tw_k_L_call) rfl rfl rfl (by decide +kernel) ⟨Nat.le_of_ble_eq_true rfl, Nat.le_of_ble_eq_true rfl⟩) (List.Perm.of_eq (List.append_nil _).symm) rfl rfl (Nat.le_of_ble_eq_true rfl) dL_holds_325 ⟨Nat.le_of_ble_eq_true rfl, Nat.le_of_ble_eq_true rfl⟩ (fun u22 hu22 => ?_)
            have haj22 := ob_pj hu22 hv2
            refine hv_weq (ws' := ob_W dA a L u22) (List.append_nil _) ?_
            refine hv_eqst (st' := [.int (zI (an_about L (6)))]) rfl ?_
            refine hv_topi (y := zI (0)) (by rw [show an_about L (6) = 0 from (an_abo6 L).trans (zB_F (by omega))]) ?_
            refine hv_istore C dL_holds_328 (lw := [(11, .int (zI (0))), (0, .ref (a 0)), (1, .int (zI (lg L 0))), (2, .int (zI (lg L 5))), (3, .int (zI (ox_w (lg L)))), (4, .int (zI (wo_best (gS (lg L)) (gW (lg L)) (gR (lg L)) (gH (lg L))))), (5, .int (zI ((sp_lv (gH (lg L)) : Int)))), (6, .int (zI (lg L 0 - (sp_lc (gH (lg L)) : Int)))), (7, .int (zI (((gH (lg L)) : Int)))), (8, .int (zI ((wo_cnt (wo_can (gH (lg L))) (wo_cls (gS (lg L)) (gR (lg L))) : Int)))), (9, .int (zI ((wo_cnt (wo_isb (gS (lg L)) (gW (lg L)) (gR (lg L)) (gH (lg L))) (wo_cls (gS (lg L)) (gR (lg L))) : Int)))), (10, .int (zI (1)))]) (by decide) rfl ?_
            refine hv_aload_n C dL_holds_330 1 rfl ?_
            refine hv_iconst C dL_holds_331 (v := zI (2)) rfl ?_
            refine hv_iconst C dL_holds_332 (v := zI (4)) rfl ?_
            refine hv_iconst C dL_holds_333 (v := zI (0)) rfl ?_
            refine hv_iconst C dL_holds_334 (v := zI (0)) rfl ?_
            refine hz_callS (As := [.ref (a 0), .int (zI (2)), .int (zI (4)), .int (zI (0)), .int (zI (0))]) (rest := []) (wc := ob_W dA a L u22) (wr := []) C X (k_C_about_r l D dA sa hst a L u22 hJ hu22.1 (4) (by decide) (0) (0) haj22) (va_cwS 5 C.1.2.2.2.2 (hw_S tw_m_RL_132 tw_t_L_call tw_n_RL tw_k_L_call) rfl rfl rfl (by decide +kernel) ⟨Nat.le_of_ble_eq_true rfl, Nat.le_of_ble_eq_true rfl⟩) (List.Perm.of_eq (List.append_nil _).symm) rfl rfl (Nat.le_of_ble_eq_true rfl) dL_holds_335 ⟨Nat.le_of_ble_eq_true rfl, Nat.le_of_ble_eq_true rfl⟩ (fun u23 hu23 => ?_)
            have haj23 := ob_pj hu23 haj22
            refine hv_weq (ws' := ob_W dA a L u23) (List.append_nil _) ?_
            refine hv_eqst (st' := [.int (zI (an_about L (4)))]) rfl ?_
            refine hv_topi (y := zI (lg L 3)) (by rw [show an_about L (4) = lg L 3 from an_abo4 L]) ?_
            refine hv_istore C dL_holds_338 (lw := [(12, .int (zI (lg L 3))), (11, .int (zI (0))), (0, .ref (a 0)), (1, .int (zI (lg L 0))), (2, .int (zI (lg L 5))), (3, .int (zI (ox_w (lg L)))), (4, .int (zI (wo_best (gS (lg L)) (gW (lg L)) (gR (lg L)) (gH (lg L))))), (5, .int (zI ((sp_lv (gH (lg L)) : Int)))), (6, .int (zI (lg L 0 - (sp_lc (gH (lg L)) : Int)))), (7, .int (zI (((gH (lg L)) : Int)))), (8, .int (zI ((wo_cnt (wo_can (gH (lg L))) (wo_cls (gS (lg L)) (gR (lg L))) : Int)))), (9, .int (zI ((wo_cnt (wo_isb (gS (lg L)) (gW (lg L)) (gR (lg L)) (gH (lg L))) (wo_cls (gS (lg L)) (gR (lg L))) : Int)))), (10, .int (zI (1)))]) (by decide) rfl ?_
            refine hv_aload_n C dL_holds_340 2 rfl ?_
            refine hv_iconst C dL_holds_341 (v := zI (4)) rfl ?_
            refine hv_iconst C dL_holds_342 (v := zI (1)) rfl ?_
            refine hv_iload C dL_holds_343 0 rfl ?_
            refine hv_isub C dL_holds_345 (z := zI (1 - lg L 3)) ((zI_sub _ _).trans (zI_c (by omega))) ?_
            refine hv_iconst C dL_holds_346 (v := zI (0)) rfl ?_
            refine hv_iconst C dL_holds_347 (v := zI (0)) rfl ?_
            refine hz_callS (As := [.ref (a 0), .int (zI (4)), .int (zI (1 - lg L 3)), .int (zI (0)), .int (zI (0))]) (rest := []) (wc := ob_W dA a L u23) (wr := []) C X (k_C_who l D dA sa hst a L u23 hJ hu23.1 (1 - lg L 3) (by omega) (0) (by decide) (0)) (va_cwS 5 C.1.2.2.2.2 (hw_S tw_m_RL_132 tw_t_L_call tw_n_RL tw_k_L_call) rfl rfl rfl (by decide +kernel) ⟨Nat.le_of_ble_eq_true rfl, Nat.le_of_ble_eq_true rfl⟩) (List.Perm.of_eq (List.append_nil _).symm) rfl rfl (Nat.le_of_ble_eq_true rfl) dL_holds_348 ⟨Nat.le_of_ble_eq_true rfl, Nat.le_of_ble_eq_true rfl⟩ (fun u24 hu24 => ?_)
            have haj24 := ob_pj hu24 haj23
            refine hv_weq (ws' := ob_W dA a L u24) (List.append_nil _) ?_
            refine hv_eqst (st' := [.int (zI (an_who L (1 - lg L 3) (0)))]) rfl ?_
            refine hv_topi (y := zI (if 1 - lg L 3 = 0 then lg L 6 else lg L 7)) (by rw [show an_who L (1 - lg L 3) (0) = if 1 - lg L 3 = 0 then lg L 6 else lg L 7 from an_who0 L (by omega)]) ?_
            refine hv_aload_n C dL_holds_351 2 rfl ?_
            refine hv_iconst C dL_holds_352 (v := zI (4)) rfl ?_
            refine hv_iload C dL_holds_353 0 rfl ?_
            refine hv_iconst C dL_holds_355 (v := zI (0)) rfl ?_
            refine hv_iconst C dL_holds_356 (v := zI (0)) rfl ?_
            refine hz_callS (As := [.ref (a 0), .int (zI (4)), .int (zI (lg L 3)), .int (zI (0)), .int (zI (0))]) (rest := [.int (zI (if 1 - lg L 3 = 0 then lg L 6 else lg L 7))]) (wc := ob_W dA a L u24) (wr := []) C X (k_C_who l D dA sa hst a L u24 hJ hu24.1 (lg L 3) (by omega) (0) (by decide) (0)) (va_cwS 5 C.1.2.2.2.2 (hw_S tw_m_RL_132 tw_t_L_call tw_n_RL tw_k_L_call) rfl rfl rfl (by decide +kernel) ⟨Nat.le_of_ble_eq_true rfl, Nat.le_of_ble_eq_true rfl⟩) (List.Perm.of_eq (List.append_nil _).symm) rfl rfl (Nat.le_of_ble_eq_true rfl) dL_holds_357 ⟨Nat.le_of_ble_eq_true rfl, Nat.le_of_ble_eq_true rfl⟩ (fun u25 hu25 => ?_)
            have haj25 := ob_pj hu25 haj24
            refine hv_weq (ws' := ob_W dA a L u25) (List.append_nil _) ?_
            refine hv_eqst (st' := [.int (zI (an_who L (lg L 3) (0))), .int (zI (if 1 - lg L 3 = 0 then lg L 6 else lg L 7))]) rfl ?_
            refine hv_topi (y := zI (if lg L 3 = 0 then lg L 6 else lg L 7)) (by rw [show an_who L (lg L 3) (0) = if lg L 3 = 0 then lg L 6 else lg L 7 from an_who0 L (by omega)]) ?_
            refine hv_isub C dL_holds_360 (z := zI ((if 1 - lg L 3 = 0 then lg L 6 else lg L 7) - (if lg L 3 = 0 then lg L 6 else lg L 7))) ((zI_sub _ _).trans (zI_c (by rfl))) ?_
            refine hv_iload_n C dL_holds_361 5 rfl ?_
            refine hv_iadd C dL_holds_362 (z := zI (ox_ahead (lg L))) ((zI_add _ _).trans (zI_c (by exact hd_by hg3))) ?_
            refine hv_istore C dL_holds_363 (lw := [(13, .int (zI (ox_ahead (lg L)))), (12, .int (zI (lg L 3))), (11, .int (zI (0))), (0, .ref (a 0)), (1, .int (zI (lg L 0))), (2, .int (zI (lg L 5))), (3, .int (zI (ox_w (lg L)))), (4, .int (zI (wo_best (gS (lg L)) (gW (lg L)) (gR (lg L)) (gH (lg L))))), (5, .int (zI ((sp_lv (gH (lg L)) : Int)))), (6, .int (zI (lg L 0 - (sp_lc (gH (lg L)) : Int)))), (7, .int (zI (((gH (lg L)) : Int)))), (8, .int (zI ((wo_cnt (wo_can (gH (lg L))) (wo_cls (gS (lg L)) (gR (lg L))) : Int)))), (9, .int (zI ((wo_cnt (wo_isb (gS (lg L)) (gW (lg L)) (gR (lg L)) (gH (lg L))) (wo_cls (gS (lg L)) (gR (lg L))) : Int)))), (10, .int (zI (1)))]) (by decide) rfl ?_
            refine hv_aload_n C dL_holds_365 3 rfl ?_
            refine hv_bipush C dL_holds_366 (v := zI (12)) (by decide +kernel) ?_
            refine hv_bipush C dL_holds_368 (v := zI (18)) (by decide +kernel) ?_
            refine hv_iconst C dL_holds_370 (v := zI (1)) rfl ?_
            refine hv_iconst C dL_holds_371 (v := zI (0)) rfl ?_
            refine hz_callS (As := [.ref (a 0), .int (zI (12)), .int (zI (18)), .int (zI (1)), .int (zI (0))]) (rest := []) (wc := ob_W dA a L u25) (wr := []) C X (k_C_goes l D dA sa hst a L u25 hJ hu25.1 (18) (by decide) (1) (by decide) (0) haj25) (va_cwS 5 C.1.2.2.2.2 (hw_S tw_m_RL_132 tw_t_L_call tw_n_RL tw_k_L_call) rfl rfl rfl (by decide +kernel) ⟨Nat.le_of_ble_eq_true rfl, Nat.le_of_ble_eq_true rfl⟩) (List.Perm.of_eq (List.append_nil _).symm) rfl rfl (Nat.le_of_ble_eq_true rfl) dL_holds_372 ⟨Nat.le_of_ble_eq_true rfl, Nat.le_of_ble_eq_true rfl⟩ (fun u26 hu26 => ?_)
            have haj26 := ob_pj hu26 haj25
            refine hv_weq (ws' := ob_W dA a L u26) (List.append_nil _) ?_
            refine hv_eqst (st' := [.int (zI (an_goes L (18) (1)))]) rfl ?_
            refine hv_topi (y := zI (((ox_go (lg L) 18 (gH (lg L)) 0).2 : Int))) (by rw [show an_goes L (18) (1) = ((ox_go (lg L) 18 (gH (lg L)) 0).2 : Int) from an_goes1 L]) ?_
            refine hv_istore C dL_holds_375 (lw := [(14, .int (zI (((ox_go (lg L) 18 (gH (lg L)) 0).2 : Int)))), (13, .int (zI (ox_ahead (lg L)))), (12, .int (zI (lg L 3))), (11, .int (zI (0))), (0, .ref (a 0)), (1, .int (zI (lg L 0))), (2, .int (zI (lg L 5))), (3, .int (zI (ox_w (lg L)))), (4, .int (zI (wo_best (gS (lg L)) (gW (lg L)) (gR (lg L)) (gH (lg L))))), (5, .int (zI ((sp_lv (gH (lg L)) : Int)))), (6, .int (zI (lg L 0 - (sp_lc (gH (lg L)) : Int)))), (7, .int (zI (((gH (lg L)) : Int)))), (8, .int (zI ((wo_cnt (wo_can (gH (lg L))) (wo_cls (gS (lg L)) (gR (lg L))) : Int)))), (9, .int (zI ((wo_cnt (wo_isb (gS (lg L)) (gW (lg L)) (gR (lg L)) (gH (lg L))) (wo_cls (gS (lg L)) (gR (lg L))) : Int)))), (10, .int (zI (1)))]) (by decide) rfl ?_
            refine hv_iload C dL_holds_377 14 rfl ?_
            refine hv_if_eq C dL_holds_379 (tgt := 604) (by decide) (zI_eq0 (by omega)) (fun hc379 => ?_) (fun hc379 => ?_)
            · exact absurd hc379 (by omega)
            · refine hv_aload_n C dL_holds_382 4 rfl ?_
              refine hv_iconst C dL_holds_383 (v := zI (2)) rfl ?_
              refine hv_iconst C dL_holds_384 (v := zI (1)) rfl ?_
              refine hv_iconst C dL_holds_385 (v := zI (0)) rfl ?_
              refine hv_iconst C dL_holds_386 (v := zI (0)) rfl ?_
              refine hz_callS (As := [.ref (a 0), .int (zI (2)), .int (zI (1)), .int (zI (0)), .int (zI (0))]) (rest := []) (wc := ob_W dA a L u26) (wr := []) C X (k_C_about_r l D dA sa hst a L u26 hJ hu26.1 (1) (by decide) (0) (0) haj26) (va_cwS 5 C.1.2.2.2.2 (hw_S tw_m_RL_132 tw_t_L_call tw_n_RL tw_k_L_call) rfl rfl rfl (by decide +kernel) ⟨Nat.le_of_ble_eq_true rfl, Nat.le_of_ble_eq_true rfl⟩) (List.Perm.of_eq (List.append_nil _).symm) rfl rfl (Nat.le_of_ble_eq_true rfl) dL_holds_387 ⟨Nat.le_of_ble_eq_true rfl, Nat.le_of_ble_eq_true rfl⟩ (fun u27 hu27 => ?_)
              have haj27 := ob_pj hu27 haj26
              refine hv_weq (ws' := ob_W dA a L u27) (List.append_nil _) ?_
              refine hv_eqst (st' := [.int (zI (an_about L (1)))]) rfl ?_
              refine hv_topi (y := zI ((sp_lv (gH (lg L)) : Int))) (by rw [show an_about L (1) = (sp_lv (gH (lg L)) : Int) from an_abo1 L]) ?_
              refine hv_iload C dL_holds_390 9 rfl ?_
              refine hv_icmp_ne C dL_holds_392 (tgt := 604) (by decide) Iff.rfl (fun hc392 => ?_) (fun hc392 => ?_)
              · exact absurd hc392 (by exact fun q => q rfl)
              · refine hv_aload_n C dL_holds_395 4 rfl ?_
                refine hv_iconst C dL_holds_396 (v := zI (2)) rfl ?_
                refine hv_iconst C dL_holds_397 (v := zI (2)) rfl ?_
                refine hv_iconst C dL_holds_398 (v := zI (0)) rfl ?_
                refine hv_iconst C dL_holds_399 (v := zI (0)) rfl ?_
                refine hz_callS (As := [.ref (a 0), .int (zI (2)), .int (zI (2)), .int (zI (0)), .int (zI (0))]) (rest := []) (wc := ob_W dA a L u27) (wr := []) C X (k_C_about_r l D dA sa hst a L u27 hJ hu27.1 (2) (by decide) (0) (0) haj27) (va_cwS 5 C.1.2.2.2.2 (hw_S tw_m_RL_132 tw_t_L_call tw_n_RL tw_k_L_call) rfl rfl rfl (by decide +kernel) ⟨Nat.le_of_ble_eq_true rfl, Nat.le_of_ble_eq_true rfl⟩) (List.Perm.of_eq (List.append_nil _).symm) rfl rfl (Nat.le_of_ble_eq_true rfl) dL_holds_400 ⟨Nat.le_of_ble_eq_true rfl, Nat.le_of_ble_eq_true rfl⟩ (fun u28 hu28 => ?_)
                have haj28 := ob_pj hu28 haj27
                refine hv_weq (ws' := ob_W dA a L u28) (List.append_nil _) ?_
                refine hv_eqst (st' := [.int (zI (an_about L (2)))]) rfl ?_
                refine hv_topi (y := zI (lg L 0 - (sp_lc (gH (lg L)) : Int))) (by rw [show an_about L (2) = lg L 0 - (sp_lc (gH (lg L)) : Int) from an_abo2 L]) ?_
                refine hv_iload C dL_holds_403 10 rfl ?_
                refine hv_icmp_ne C dL_holds_405 (tgt := 604) (by decide) Iff.rfl (fun hc405 => ?_) (fun hc405 => ?_)
                · exact absurd hc405 (by exact fun q => q rfl)
                · refine hv_aload_n C dL_holds_408 4 rfl ?_
                  refine hv_iconst C dL_holds_409 (v := zI (2)) rfl ?_
                  refine hv_bipush C dL_holds_410 (v := zI (7)) (by decide +kernel) ?_
                  refine hv_iconst C dL_holds_412 (v := zI (0)) rfl ?_
                  refine hv_iconst C dL_holds_413 (v := zI (0)) rfl ?_
                  refine hz_callS (As := [.ref (a 0), .int (zI (2)), .int (zI (7)), .int (zI (0)), .int (zI (0))]) (rest := []) (wc := ob_W dA a L u28) (wr := []) C X (k_C_about_r l D dA sa hst a L u28 hJ hu28.1 (7) (by decide) (0) (0) haj28) (va_cwS 5 C.1.2.2.2.2 (hw_S tw_m_RL_132 tw_t_L_call tw_n_RL tw_k_L_call) rfl rfl rfl (by decide +kernel) ⟨Nat.le_of_ble_eq_true rfl, Nat.le_of_ble_eq_true rfl⟩) (List.Perm.of_eq (List.append_nil _).symm) rfl rfl (Nat.le_of_ble_eq_true rfl) dL_holds_414 ⟨Nat.le_of_ble_eq_true rfl, Nat.le_of_ble_eq_true rfl⟩ (fun u29 hu29 => ?_)
                  have haj29 := ob_pj hu29 haj28
                  refine hv_weq (ws' := ob_W dA a L u29) (List.append_nil _) ?_
                  refine hv_eqst (st' := [.int (zI (an_about L (7)))]) rfl ?_
                  refine hv_topi (y := zI (((gH (lg L)) : Int))) (by rw [show an_about L (7) = ((gH (lg L)) : Int) from (an_abo7 L).trans e1]) ?_
                  refine hv_iload C dL_holds_417 11 rfl ?_
                  refine hv_icmp_ne C dL_holds_419 (tgt := 604) (by decide) Iff.rfl (fun hc419 => ?_) (fun hc419 => ?_)
                  · exact absurd hc419 (by exact fun q => q rfl)
                  · refine hv_aload_n C dL_holds_422 4 rfl ?_
                    refine hv_iconst C dL_holds_423 (v := zI (2)) rfl ?_
                    refine hv_bipush C dL_holds_424 (v := zI (8)) (by decide +kernel) ?_
                    refine hv_iconst C dL_holds_426 (v := zI (0)) rfl ?_
                    refine hv_iconst C dL_holds_427 (v := zI (0)) rfl ?_
                    refine hz_callS (As := [.ref (a 0), .int (zI (2)), .int (zI (8)), .int (zI (0)), .int (zI (0))]) (rest := []) (wc := ob_W dA a L u29) (wr := []) C X (k_C_about_r l D dA sa hst a L u29 hJ hu29.1 (8) (by decide) (0) (0) haj29) (va_cwS 5 C.1.2.2.2.2 (hw_S tw_m_RL_132 tw_t_L_call tw_n_RL tw_k_L_call) rfl rfl rfl (by decide +kernel) ⟨Nat.le_of_ble_eq_true rfl, Nat.le_of_ble_eq_true rfl⟩) (List.Perm.of_eq (List.append_nil _).symm) rfl rfl (Nat.le_of_ble_eq_true rfl) dL_holds_428 ⟨Nat.le_of_ble_eq_true rfl, Nat.le_of_ble_eq_true rfl⟩ (fun u30 hu30 => ?_)
                    have haj30 := ob_pj hu30 haj29
                    refine hv_weq (ws' := ob_W dA a L u30) (List.append_nil _) ?_
                    refine hv_eqst (st' := [.int (zI (an_about L (8)))]) rfl ?_
                    refine hv_topi (y := zI ((wo_cnt (wo_can (gH (lg L))) (wo_cls (gS (lg L)) (gR (lg L))) : Int))) (by rw [show an_about L (8) = (wo_cnt (wo_can (gH (lg L))) (wo_cls (gS (lg L)) (gR (lg L))) : Int) from an_abo8 L]) ?_
                    refine hv_iload C dL_holds_431 12 rfl ?_
                    refine hv_icmp_ne C dL_holds_433 (tgt := 604) (by decide) Iff.rfl (fun hc433 => ?_) (fun hc433 => ?_)
                    · exact absurd hc433 (by exact fun q => q rfl)
                    · refine hv_aload_n C dL_holds_436 4 rfl ?_
                      refine hv_callV (As := []) (rest := []) (wc := ob_W dA a L u30) (wr := []) C (k_O_bestClips l D dA a L u30 hJ hu30.1 haj30) (cwV 0 C.1.2.2.2.2 (hw_V tw_m_RL_155 tw_i_X8_bestClips tw_s_X8_bestClips tw_n_RX8 tw_k_X8_bestClips) rfl rfl rfl (by decide +kernel) ⟨Nat.le_of_ble_eq_true rfl, Nat.le_of_ble_eq_true rfl⟩) (List.Perm.of_eq (List.append_nil _).symm) rfl 0 6 rfl rfl rfl (Nat.le_of_ble_eq_true rfl) dL_holds_437 ⟨Nat.le_of_ble_eq_true rfl, Nat.le_of_ble_eq_true rfl⟩ (fun u31 hu31 => ?_)
                      have haj31 := ob_pj hu31 haj30
                      refine hv_weq (ws' := ob_W dA a L u31) (List.append_nil _) ?_
                      refine hv_eqst (st' := [.int (zI ((wo_cnt (wo_isb (gS (lg L)) (gW (lg L)) (gR (lg L)) (gH (lg L))) (wo_cls (gS (lg L)) (gR (lg L))) : Int)))]) rfl ?_
                      refine hv_iload C dL_holds_440 13 rfl ?_
                      refine hv_icmp_ne C dL_holds_442 (tgt := 604) (by decide) Iff.rfl (fun hc442 => ?_) (fun hc442 => ?_)
                      · exact absurd hc442 (by exact fun q => q rfl)
                      · refine hv_iload C dL_holds_445 3 rfl ?_
                        refine hv_iconst C dL_holds_447 (v := zI (1)) rfl ?_
                        refine hv_icmp_ne C dL_holds_448 (tgt := 455) (by decide) (zI_ne (by omega)) (fun hc448 => ?_) (fun hc448 => ?_)
                        · refine hv_iconst C dL_holds_455 (v := zI (0)) rfl ?_
                          refine hv_iload C dL_holds_456 9 rfl ?_
                          refine hv_if_ne C dL_holds_458 (tgt := 465) (by decide) (zI_ne0 (by omega)) (fun hc458 => ?_) (fun hc458 => ?_)
                          · refine hv_iconst C dL_holds_465 (v := zI (0)) rfl ?_
                            refine hv_icmp_ne C dL_holds_466 (tgt := 604) (by decide) (zI_ne (by omega)) (fun hc466 => ?_) (fun hc466 => ?_)
                            · exact absurd hc466 (by omega)
                            · refine hv_iload C dL_holds_469 8 rfl ?_
                              refine hv_iconst C dL_holds_471 (v := zI (-1)) rfl ?_
                              refine hv_icmp_ne C dL_holds_472 (tgt := 479) (by decide) (zI_ne (by omega)) (fun hc472 => ?_) (fun hc472 => ?_)
                              · refine hv_iconst C dL_holds_479 (v := zI (0)) rfl ?_
                                refine hv_iload C dL_holds_480 3 rfl ?_
                                refine hv_iconst C dL_holds_482 (v := zI (1)) rfl ?_
                                refine hv_icmp_ne C dL_holds_483 (tgt := 490) (by decide) (zI_ne (by omega)) (fun hc483 => ?_) (fun hc483 => ?_)
                                · refine hv_iconst C dL_holds_490 (v := zI (0)) rfl ?_
                                  refine hv_icmp_ne C dL_holds_491 (tgt := 604) (by decide) (zI_ne (by omega)) (fun hc491 => ?_) (fun hc491 => ?_)
                                  · exact absurd hc491 (by omega)
                                  · refine hv_iload C dL_holds_494 3 rfl ?_
                                    refine hv_if_eq C dL_holds_496 (tgt := 508) (by decide) (zI_eq0 (by omega)) (fun hc496 => ?_) (fun hc496 => ?_)
                                    · refine hv_aload_n C dL_holds_508 4 rfl ?_
                                      refine hv_iconst C dL_holds_509 (v := zI (2)) rfl ?_
                                      refine hv_iconst C dL_holds_510 (v := zI (5)) rfl ?_
                                      refine hv_iconst C dL_holds_511 (v := zI (0)) rfl ?_
                                      refine hv_iconst C dL_holds_512 (v := zI (0)) rfl ?_
                                      refine hz_callS (As := [.ref (a 0), .int (zI (2)), .int (zI (5)), .int (zI (0)), .int (zI (0))]) (rest := []) (wc := ob_W dA a L u31) (wr := []) C X (k_C_about_r l D dA sa hst a L u31 hJ hu31.1 (5) (by decide) (0) (0) haj31) (va_cwS 5 C.1.2.2.2.2 (hw_S tw_m_RL_132 tw_t_L_call tw_n_RL tw_k_L_call) rfl rfl rfl (by decide +kernel) ⟨Nat.le_of_ble_eq_true rfl, Nat.le_of_ble_eq_true rfl⟩) (List.Perm.of_eq (List.append_nil _).symm) rfl rfl (Nat.le_of_ble_eq_true rfl) dL_holds_513 ⟨Nat.le_of_ble_eq_true rfl, Nat.le_of_ble_eq_true rfl⟩ (fun u32 hu32 => ?_)
                                      have haj32 := ob_pj hu32 haj31
                                      refine hv_weq (ws' := ob_W dA a L u32) (List.append_nil _) ?_
                                      refine hv_eqst (st' := [.int (zI (an_about L (5)))]) rfl ?_
                                      refine hv_topi (y := zI (lg L 8 + lg L 9)) (by rw [show an_about L (5) = lg L 8 + lg L 9 from an_abo5 L]) ?_
                                      refine hv_aload_n C dL_holds_516 4 rfl ?_
                                      refine hv_iconst C dL_holds_517 (v := zI (4)) rfl ?_
                                      refine hv_iconst C dL_holds_518 (v := zI (0)) rfl ?_
                                      refine hv_iconst C dL_holds_519 (v := zI (1)) rfl ?_
                                      refine hv_iconst C dL_holds_520 (v := zI (0)) rfl ?_
                                      refine hz_callS (As := [.ref (a 0), .int (zI (4)), .int (zI (0)), .int (zI (1)), .int (zI (0))]) (rest := [.int (zI (lg L 8 + lg L 9))]) (wc := ob_W dA a L u32) (wr := []) C X (k_C_who l D dA sa hst a L u32 hJ hu32.1 (0) (by decide) (1) (by decide) (0)) (va_cwS 5 C.1.2.2.2.2 (hw_S tw_m_RL_132 tw_t_L_call tw_n_RL tw_k_L_call) rfl rfl rfl (by decide +kernel) ⟨Nat.le_of_ble_eq_true rfl, Nat.le_of_ble_eq_true rfl⟩) (List.Perm.of_eq (List.append_nil _).symm) rfl rfl (Nat.le_of_ble_eq_true rfl) dL_holds_521 ⟨Nat.le_of_ble_eq_true rfl, Nat.le_of_ble_eq_true rfl⟩ (fun u33 hu33 => ?_)
                                      have haj33 := ob_pj hu33 haj32
                                      refine hv_weq (ws' := ob_W dA a L u33) (List.append_nil _) ?_
                                      refine hv_eqst (st' := [.int (zI (an_who L (0) (1))), .int (zI (lg L 8 + lg L 9))]) rfl ?_
                                      refine hv_topi (y := zI (lg L 8)) (by rw [show an_who L (0) (1) = lg L 8 from (an_who1 L (by decide)).trans (if_pos rfl)]) ?_
                                      refine hv_aload_n C dL_holds_524 4 rfl ?_
                                      refine hv_iconst C dL_holds_525 (v := zI (4)) rfl ?_
                                      refine hv_iconst C dL_holds_526 (v := zI (1)) rfl ?_
                                      refine hv_iconst C dL_holds_527 (v := zI (1)) rfl ?_
                                      refine hv_iconst C dL_holds_528 (v := zI (0)) rfl ?_
                                      refine hz_callS (As := [.ref (a 0), .int (zI (4)), .int (zI (1)), .int (zI (1)), .int (zI (0))]) (rest := [.int (zI (lg L 8)), .int (zI (lg L 8 + lg L 9))]) (wc := ob_W dA a L u33) (wr := []) C X (k_C_who l D dA sa hst a L u33 hJ hu33.1 (1) (by decide) (1) (by decide) (0)) (va_cwS 5 C.1.2.2.2.2 (hw_S tw_m_RL_132 tw_t_L_call tw_n_RL tw_k_L_call) rfl rfl rfl (by decide +kernel) ⟨Nat.le_of_ble_eq_true rfl, Nat.le_of_ble_eq_true rfl⟩) (List.Perm.of_eq (List.append_nil _).symm) rfl rfl (Nat.le_of_ble_eq_true rfl) dL_holds_529 ⟨Nat.le_of_ble_eq_true rfl, Nat.le_of_ble_eq_true rfl⟩ (fun u34 hu34 => ?_)
                                      have haj34 := ob_pj hu34 haj33
                                      refine hv_weq (ws' := ob_W dA a L u34) (List.append_nil _) ?_
                                      refine hv_eqst (st' := [.int (zI (an_who L (1) (1))), .int (zI (lg L 8)), .int (zI (lg L 8 + lg L 9))]) rfl ?_
                                      refine hv_topi (y := zI (lg L 9)) (by rw [show an_who L (1) (1) = lg L 9 from (an_who1 L (by decide)).trans (if_neg (by decide))]) ?_
                                      refine hv_iadd C dL_holds_532 (z := zI (lg L 8 + lg L 9)) ((zI_add _ _).trans (zI_c (by rfl))) ?_
                                      refine hv_icmp_ne C dL_holds_533 (tgt := 604) (by decide) Iff.rfl (fun hc533 => ?_) (fun hc533 => ?_)
                                      · exact absurd hc533 (by exact fun q => q rfl)
                                      · refine hv_aload_n C dL_holds_536 4 rfl ?_
                                        refine hv_callV (As := []) (rest := []) (wc := ob_W dA a L u34) (wr := []) C (k_O_winner l D dA a L u34 hJ hu34.1 haj34) (cwV 0 C.1.2.2.2.2 (hw_V tw_m_RL_158 tw_i_X8_winner tw_s_X8_winner tw_n_RX8 tw_k_X8_winner) rfl rfl rfl (by decide +kernel) ⟨Nat.le_of_ble_eq_true rfl, Nat.le_of_ble_eq_true rfl⟩) (List.Perm.of_eq (List.append_nil _).symm) rfl 0 6 rfl rfl rfl (Nat.le_of_ble_eq_true rfl) dL_holds_537 ⟨Nat.le_of_ble_eq_true rfl, Nat.le_of_ble_eq_true rfl⟩ (fun u35 hu35 => ?_)
                                        have haj35 := ob_pj hu35 haj34
                                        refine hv_weq (ws' := ob_W dA a L u35) (List.append_nil _) ?_
                                        refine hv_eqst (st' := [.int (zI (ox_win (lg L)))]) rfl ?_
                                        refine hv_iload C dL_holds_540 1 rfl ?_
                                        refine hv_if_le C dL_holds_542 (tgt := 550) (by decide) Iff.rfl (fun hc542 => ?_) (fun hc542 => ?_)
                                        · refine hv_iload C dL_holds_550 1 rfl ?_
                                          refine hv_if_ge C dL_holds_552 (tgt := 562) (by decide) Iff.rfl (fun hc552 => ?_) (fun hc552 => ?_)
                                          · refine hv_iconst C dL_holds_562 (v := zI (2)) rfl ?_
                                            refine hv_icmp_ne C dL_holds_563 (tgt := 604) (by decide) Iff.rfl (fun hc563 => ?_) (fun hc563 => ?_)
                                            · exact absurd hc563 (by exact fun q => q (by rw [win_c3 hc542 hc552]))
                                            · refine hv_iload C dL_holds_566 0 rfl ?_
                                              refine hv_iload C dL_holds_568 9 rfl ?_
                                              refine hv_icmp_gt C dL_holds_570 (tgt := 604) (by decide) (zI_lt (by omega)) (fun hc570 => ?_) (fun hc570 => ?_)
                                              · exact absurd hc570 (by omega)
                                              · refine hv_iload C dL_holds_573 0 rfl ?_
                                                refine hv_bipush C dL_holds_575 (v := zI (18)) (by decide +kernel) ?_
                                                refine hv_icmp_gt C dL_holds_577 (tgt := 604) (by decide) (zI_lt (by omega)) (fun hc577 => ?_) (fun hc577 => ?_)
                                                · exact absurd hc577 (by omega)
                                                · refine hv_aload_n C dL_holds_580 4 rfl ?_
                                                  refine hv_bipush C dL_holds_581 (v := zI (12)) (by decide +kernel) ?_
                                                  refine hv_bipush C dL_holds_583 (v := zI (18)) (by decide +kernel) ?_
                                                  refine hv_iconst C dL_holds_585 (v := zI (0)) rfl ?_
                                                  refine hv_iconst C dL_holds_586 (v := zI (0)) rfl ?_
                                                  refine hz_callS (As := [.ref (a 0), .int (zI (12)), .int (zI (18)), .int (zI (0)), .int (zI (0))]) (rest := []) (wc := ob_W dA a L u35) (wr := []) C X (k_C_goes l D dA sa hst a L u35 hJ hu35.1 (18) (by decide) (0) (by decide) (0) haj35) (va_cwS 5 C.1.2.2.2.2 (hw_S tw_m_RL_132 tw_t_L_call tw_n_RL tw_k_L_call) rfl rfl rfl (by decide +kernel) ⟨Nat.le_of_ble_eq_true rfl, Nat.le_of_ble_eq_true rfl⟩) (List.Perm.of_eq (List.append_nil _).symm) rfl rfl (Nat.le_of_ble_eq_true rfl) dL_holds_587 ⟨Nat.le_of_ble_eq_true rfl, Nat.le_of_ble_eq_true rfl⟩ (fun u36 hu36 => ?_)
                                                  have haj36 := ob_pj hu36 haj35
                                                  refine hv_weq (ws' := ob_W dA a L u36) (List.append_nil _) ?_
                                                  refine hv_eqst (st' := [.int (zI (an_goes L (18) (0)))]) rfl ?_
                                                  refine hv_topi (y := zI (((ox_go (lg L) 18 (gH (lg L)) 0).1 : Int))) (by rw [show an_goes L (18) (0) = ((ox_go (lg L) 18 (gH (lg L)) 0).1 : Int) from an_goes0 L]) ?_
                                                  refine hv_if_eq C dL_holds_590 (tgt := 600) (by decide) (zI_eq0 (by omega)) (fun hc590 => ?_) (fun hc590 => ?_)
                                                  · refine hv_iconst C dL_holds_600 (v := zI (1)) rfl ?_
                                                    refine hv_goto C dL_holds_601 (tgt := 605) (by decide) ?_
                                                    exact hv_iret C M dL_holds_605 rfl zB_n1 u36 ⟨hu36.1, haj36⟩ rfl [] (List.Perm.of_eq (List.append_nil _).symm) (Nat.le_of_ble_eq_true rfl) (Nat.le_of_ble_eq_true rfl)
                                                  · refine hv_iload C dL_holds_593 0 rfl ?_
                                                    refine hv_bipush C dL_holds_595 (v := zI (18)) (by decide +kernel) ?_
                                                    refine hv_icmp_ne C dL_holds_597 (tgt := 604) (by decide) (zI_ne (by omega)) (fun hc597 => ?_) (fun hc597 => ?_)
                                                    · exact absurd hc597 (by omega)
                                                    · refine hv_iconst C dL_holds_600 (v := zI (1)) rfl ?_
                                                      refine hv_goto C dL_holds_601 (tgt := 605) (by decide) ?_
                                                      exact hv_iret C M dL_holds_605 rfl zB_n1 u36 ⟨hu36.1, haj36⟩ rfl [] (List.Perm.of_eq (List.append_nil _).symm) (Nat.le_of_ble_eq_true rfl) (Nat.le_of_ble_eq_true rfl)
                                          · refine hv_iconst C dL_holds_555 (v := zI (1)) rfl ?_
                                            refine hv_iload C dL_holds_556 2 rfl ?_
                                            refine hv_isub C dL_holds_558 (z := zI (1 - lg L 3)) ((zI_sub _ _).trans (zI_c (by omega))) ?_
                                            refine hv_goto C dL_holds_559 (tgt := 563) (by decide) ?_
                                            refine hv_icmp_ne C dL_holds_563 (tgt := 604) (by decide) Iff.rfl (fun hc563 => ?_) (fun hc563 => ?_)
                                            · exact absurd hc563 (by exact fun q => q (by rw [win_c2 hc552]))
                                            · refine hv_iload C dL_holds_566 0 rfl ?_
                                              refine hv_iload C dL_holds_568 9 rfl ?_
                                              refine hv_icmp_gt C dL_holds_570 (tgt := 604) (by decide) (zI_lt (by omega)) (fun hc570 => ?_) (fun hc570 => ?_)
                                              · exact absurd hc570 (by omega)
                                              · refine hv_iload C dL_holds_573 0 rfl ?_
                                                refine hv_bipush C dL_holds_575 (v := zI (18)) (by decide +kernel) ?_
                                                refine hv_icmp_gt C dL_holds_577 (tgt := 604) (by decide) (zI_lt (by omega)) (fun hc577 => ?_) (fun hc577 => ?_)
                                                · exact absurd hc577 (by omega)
                                                · refine hv_aload_n C dL_holds_580 4 rfl ?_
                                                  refine hv_bipush C dL_holds_581 (v := zI (12)) (by decide +kernel) ?_
                                                  refine hv_bipush C dL_holds_583 (v := zI (18)) (by decide +kernel) ?_
                                                  refine hv_iconst C dL_holds_585 (v := zI (0)) rfl ?_
                                                  refine hv_iconst C dL_holds_586 (v := zI (0)) rfl ?_
                                                  refine hz_callS (As := [.ref (a 0), .int (zI (12)), .int (zI (18)), .int (zI (0)), .int (zI (0))]) (rest := []) (wc := ob_W dA a L u35) (wr := []) C X (k_C_goes l D dA sa hst a L u35 hJ hu35.1 (18) (by decide) (0) (by decide) (0) haj35) (va_cwS 5 C.1.2.2.2.2 (hw_S tw_m_RL_132 tw_t_L_call tw_n_RL tw_k_L_call) rfl rfl rfl (by decide +kernel) ⟨Nat.le_of_ble_eq_true rfl, Nat.le_of_ble_eq_true rfl⟩) (List.Perm.of_eq (List.append_nil _).symm) rfl rfl (Nat.le_of_ble_eq_true rfl) dL_holds_587 ⟨Nat.le_of_ble_eq_true rfl, Nat.le_of_ble_eq_true rfl⟩ (fun u37 hu37 => ?_)
                                                  have haj37 := ob_pj hu37 haj35
                                                  refine hv_weq (ws' := ob_W dA a L u37) (List.append_nil _) ?_
                                                  refine hv_eqst (st' := [.int (zI (an_goes L (18) (0)))]) rfl ?_
                                                  refine hv_topi (y := zI (((ox_go (lg L) 18 (gH (lg L)) 0).1 : Int))) (by rw [show an_goes L (18) (0) = ((ox_go (lg L) 18 (gH (lg L)) 0).1 : Int) from an_goes0 L]) ?_
                                                  refine hv_if_eq C dL_holds_590 (tgt := 600) (by decide) (zI_eq0 (by omega)) (fun hc590 => ?_) (fun hc590 => ?_)
                                                  · refine hv_iconst C dL_holds_600 (v := zI (1)) rfl ?_
                                                    refine hv_goto C dL_holds_601 (tgt := 605) (by decide) ?_
                                                    exact hv_iret C M dL_holds_605 rfl zB_n1 u37 ⟨hu37.1, haj37⟩ rfl [] (List.Perm.of_eq (List.append_nil _).symm) (Nat.le_of_ble_eq_true rfl) (Nat.le_of_ble_eq_true rfl)
                                                  · refine hv_iload C dL_holds_593 0 rfl ?_
                                                    refine hv_bipush C dL_holds_595 (v := zI (18)) (by decide +kernel) ?_
                                                    refine hv_icmp_ne C dL_holds_597 (tgt := 604) (by decide) (zI_ne (by omega)) (fun hc597 => ?_) (fun hc597 => ?_)
                                                    · exact absurd hc597 (by omega)
                                                    · refine hv_iconst C dL_holds_600 (v := zI (1)) rfl ?_
                                                      refine hv_goto C dL_holds_601 (tgt := 605) (by decide) ?_
                                                      exact hv_iret C M dL_holds_605 rfl zB_n1 u37 ⟨hu37.1, haj37⟩ rfl [] (List.Perm.of_eq (List.append_nil _).symm) (Nat.le_of_ble_eq_true rfl) (Nat.le_of_ble_eq_true rfl)
                                        · refine hv_iload C dL_holds_545 2 rfl ?_
                                          refine hv_goto C dL_holds_547 (tgt := 563) (by decide) ?_
                                          refine hv_icmp_ne C dL_holds_563 (tgt := 604) (by decide) Iff.rfl (fun hc563 => ?_) (fun hc563 => ?_)
                                          · exact absurd hc563 (by exact fun q => q (by rw [win_c1 hc542]))
                                          · refine hv_iload C dL_holds_566 0 rfl ?_
                                            refine hv_iload C dL_holds_568 9 rfl ?_
                                            refine hv_icmp_gt C dL_holds_570 (tgt := 604) (by decide) (zI_lt (by omega)) (fun hc570 => ?_) (fun hc570 => ?_)
                                            · exact absurd hc570 (by omega)
                                            · refine hv_iload C dL_holds_573 0 rfl ?_
                                              refine hv_bipush C dL_holds_575 (v := zI (18)) (by decide +kernel) ?_
                                              refine hv_icmp_gt C dL_holds_577 (tgt := 604) (by decide) (zI_lt (by omega)) (fun hc577 => ?_) (fun hc577 => ?_)
                                              · exact absurd hc577 (by omega)
                                              · refine hv_aload_n C dL_holds_580 4 rfl ?_
                                                refine hv_bipush C dL_holds_581 (v := zI (12)) (by decide +kernel) ?_
                                                refine hv_bipush C dL_holds_583 (v := zI (18)) (by decide +kernel) ?_
                                                refine hv_iconst C dL_holds_585 (v := zI (0)) rfl ?_
                                                refine hv_iconst C dL_holds_586 (v := zI (0)) rfl ?_
                                                refine hz_callS (As := [.ref (a 0), .int (zI (12)), .int (zI (18)), .int (zI (0)), .int (zI (0))]) (rest := []) (wc := ob_W dA a L u35) (wr := []) C X (k_C_goes l D dA sa hst a L u35 hJ hu35.1 (18) (by decide) (0) (by decide) (0) haj35) (va_cwS 5 C.1.2.2.2.2 (hw_S tw_m_RL_132 tw_t_L_call tw_n_RL tw_k_L_call) rfl rfl rfl (by decide +kernel) ⟨Nat.le_of_ble_eq_true rfl, Nat.le_of_ble_eq_true rfl⟩) (List.Perm.of_eq (List.append_nil _).symm) rfl rfl (Nat.le_of_ble_eq_true rfl) dL_holds_587 ⟨Nat.le_of_ble_eq_true rfl, Nat.le_of_ble_eq_true rfl⟩ (fun u38 hu38 => ?_)
                                                have haj38 := ob_pj hu38 haj35
                                                refine hv_weq (ws' := ob_W dA a L u38) (List.append_nil _) ?_
                                                refine hv_eqst (st' := [.int (zI (an_goes L (18) (0)))]) rfl ?_
                                                refine hv_topi (y := zI (((ox_go (lg L) 18 (gH (lg L)) 0).1 : Int))) (by rw [show an_goes L (18) (0) = ((ox_go (lg L) 18 (gH (lg L)) 0).1 : Int) from an_goes0 L]) ?_
                                                refine hv_if_eq C dL_holds_590 (tgt := 600) (by decide) (zI_eq0 (by omega)) (fun hc590 => ?_) (fun hc590 => ?_)
                                                · refine hv_iconst C dL_holds_600 (v := zI (1)) rfl ?_
                                                  refine hv_goto C dL_holds_601 (tgt := 605) (by decide) ?_
                                                  exact hv_iret C M dL_holds_605 rfl zB_n1 u38 ⟨hu38.1, haj38⟩ rfl [] (List.Perm.of_eq (List.append_nil _).symm) (Nat.le_of_ble_eq_true rfl) (Nat.le_of_ble_eq_true rfl)
                                                · refine hv_iload C dL_holds_593 0 rfl ?_
                                                  refine hv_bipush C dL_holds_595 (v := zI (18)) (by decide +kernel) ?_
                                                  refine hv_icmp_ne C dL_holds_597 (tgt := 604) (by decide) (zI_ne (by omega)) (fun hc597 => ?_) (fun hc597 => ?_)
                                                  · exact absurd hc597 (by omega)
                                                  · refine hv_iconst C dL_holds_600 (v := zI (1)) rfl ?_
                                                    refine hv_goto C dL_holds_601 (tgt := 605) (by decide) ?_
                                                    exact hv_iret C M dL_holds_605 rfl zB_n1 u38 ⟨hu38.1, haj38⟩ rfl [] (List.Perm.of_eq (List.append_nil _).symm) (Nat.le_of_ble_eq_true rfl) (Nat.le_of_ble_eq_true rfl)
                                    · exact absurd hc496 (by omega)
                                · exact absurd hc483 (by omega)
                              · exact absurd hc472 (by omega)
                          · exact absurd hc458 (by omega)
                        · exact absurd hc448 (by omega)
        · have hi9 : i < 9 * gS (lg L) := by omega
          refine hv_iload C dL_holds_135 1 rfl ?_
          refine hv_if_eq C dL_holds_137 (tgt := 319) (by decide) (zI_eq0 (by omega)) (fun hc137 => ?_) (fun hc137 => ?_)
          · exact absurd hc137 (by omega)
          · refine hv_iload C dL_holds_140 0 rfl ?_
            refine hv_bipush C dL_holds_142 (v := zI (9)) (by decide +kernel) ?_
            refine hv_idiv C dL_holds_144 (z := zI ((i : Int) / 9)) ((zI_ne0 (by omega)).mpr (by omega)) ((zI_div (by omega)).trans (zI_c (by omega))) ?_
            refine hv_istore C dL_holds_145 (lw := [(12, .int (zI ((i : Int) / 9))), (11, .int (zI ((i : Int)))), (10, .int (zI (1))), (9, .int (zI ((wo_cnt (wo_isb (gS (lg L)) (gW (lg L)) (gR (lg L)) (gH (lg L))) (hk_l (gS (lg L)) (gR (lg L)) i) : Int)))), (8, .int (zI ((wo_cnt (wo_can (gH (lg L))) (hk_l (gS (lg L)) (gR (lg L)) i) : Int)))), (0, .ref (a 0)), (1, .int (zI (lg L 0))), (2, .int (zI (lg L 5))), (3, .int (zI (ox_w (lg L)))), (4, .int (zI (wo_best (gS (lg L)) (gW (lg L)) (gR (lg L)) (gH (lg L))))), (5, .int (zI ((sp_lv (gH (lg L)) : Int)))), (6, .int (zI (lg L 0 - (sp_lc (gH (lg L)) : Int)))), (7, .int (zI (((gH (lg L)) : Int))))]) (by decide) rfl ?_
            refine hv_iload C dL_holds_147 0 rfl ?_
            refine hv_iload C dL_holds_149 1 rfl ?_
            refine hv_iconst C dL_holds_151 (v := zI (3)) rfl ?_
            refine hv_idiv C dL_holds_152 (z := zI ((i : Int) / 3)) ((zI_ne0 (by omega)).mpr (by omega)) ((zI_div (by omega)).trans (zI_c (by omega))) ?_
            refine hv_iconst C dL_holds_153 (v := zI (3)) rfl ?_
            refine hv_irem C dL_holds_154 (z := zI ((i : Int) / 3 % 3)) ((zI_ne0 (by omega)).mpr (by omega)) ((zI_rem (by omega)).trans (zI_c (by omega))) ?_
            refine hv_iadd C dL_holds_155 (z := zI ((i : Int) / 9 + (i : Int) / 3 % 3)) ((zI_add _ _).trans (zI_c (by omega))) ?_
            refine hv_istore C dL_holds_156 (lw := [(13, .int (zI ((i : Int) / 9 + (i : Int) / 3 % 3))), (12, .int (zI ((i : Int) / 9))), (11, .int (zI ((i : Int)))), (10, .int (zI (1))), (9, .int (zI ((wo_cnt (wo_isb (gS (lg L)) (gW (lg L)) (gR (lg L)) (gH (lg L))) (hk_l (gS (lg L)) (gR (lg L)) i) : Int)))), (8, .int (zI ((wo_cnt (wo_can (gH (lg L))) (hk_l (gS (lg L)) (gR (lg L)) i) : Int)))), (0, .ref (a 0)), (1, .int (zI (lg L 0))), (2, .int (zI (lg L 5))), (3, .int (zI (ox_w (lg L)))), (4, .int (zI (wo_best (gS (lg L)) (gW (lg L)) (gR (lg L)) (gH (lg L))))), (5, .int (zI ((sp_lv (gH (lg L)) : Int)))), (6, .int (zI (lg L 0 - (sp_lc (gH (lg L)) : Int)))), (7, .int (zI (((gH (lg L)) : Int))))]) (by decide) rfl ?_
            refine hv_iconst C dL_holds_158 (v := zI (1)) rfl ?_
            refine hv_iload C dL_holds_159 2 rfl ?_
            refine hv_iconst C dL_holds_161 (v := zI (3)) rfl ?_
            refine hv_irem C dL_holds_162 (z := zI ((i : Int) % 3)) ((zI_ne0 (by omega)).mpr (by omega)) ((zI_rem (by omega)).trans (zI_c (by omega))) ?_
            refine hv_iadd C dL_holds_163 (z := zI (1 + (i : Int) % 3)) ((zI_add _ _).trans (zI_c (by omega))) ?_
            refine hv_istore C dL_holds_164 (lw := [(14, .int (zI (1 + (i : Int) % 3))), (13, .int (zI ((i : Int) / 9 + (i : Int) / 3 % 3))), (12, .int (zI ((i : Int) / 9))), (11, .int (zI ((i : Int)))), (10, .int (zI (1))), (9, .int (zI ((wo_cnt (wo_isb (gS (lg L)) (gW (lg L)) (gR (lg L)) (gH (lg L))) (hk_l (gS (lg L)) (gR (lg L)) i) : Int)))), (8, .int (zI ((wo_cnt (wo_can (gH (lg L))) (hk_l (gS (lg L)) (gR (lg L)) i) : Int)))), (0, .ref (a 0)), (1, .int (zI (lg L 0))), (2, .int (zI (lg L 5))), (3, .int (zI (ox_w (lg L)))), (4, .int (zI (wo_best (gS (lg L)) (gW (lg L)) (gR (lg L)) (gH (lg L))))), (5, .int (zI ((sp_lv (gH (lg L)) : Int)))), (6, .int (zI (lg L 0 - (sp_lc (gH (lg L)) : Int)))), (7, .int (zI (((gH (lg L)) : Int))))]) (by decide) rfl ?_
            refine hv_iload C dL_holds_166 1 rfl ?_
            refine hv_iload_n C dL_holds_168 8 rfl ?_
            refine hv_icmp_ge C dL_holds_169 (tgt := 181) (by decide) (zI_le (by omega)) (fun hc169 => ?_) (fun hc169 => ?_)
            · have hna : ¬ hk_a (gS (lg L)) (gR (lg L)) i = true := hk_a_f (fun q => by omega)
              refine hv_iconst C dL_holds_181 (v := zI (-1)) rfl ?_
              refine hv_goto C dL_holds_182 (tgt := 196) (by decide) ?_
              refine hv_istore C dL_holds_196 (lw := [(15, .int (zI (-1))), (14, .int (zI (1 + (i : Int) % 3))), (13, .int (zI ((i : Int) / 9 + (i : Int) / 3 % 3))), (12, .int (zI ((i : Int) / 9))), (11, .int (zI ((i : Int)))), (10, .int (zI (1))), (9, .int (zI ((wo_cnt (wo_isb (gS (lg L)) (gW (lg L)) (gR (lg L)) (gH (lg L))) (hk_l (gS (lg L)) (gR (lg L)) i) : Int)))), (8, .int (zI ((wo_cnt (wo_can (gH (lg L))) (hk_l (gS (lg L)) (gR (lg L)) i) : Int)))), (0, .ref (a 0)), (1, .int (zI (lg L 0))), (2, .int (zI (lg L 5))), (3, .int (zI (ox_w (lg L)))), (4, .int (zI (wo_best (gS (lg L)) (gW (lg L)) (gR (lg L)) (gH (lg L))))), (5, .int (zI ((sp_lv (gH (lg L)) : Int)))), (6, .int (zI (lg L 0 - (sp_lc (gH (lg L)) : Int)))), (7, .int (zI (((gH (lg L)) : Int))))]) (by decide) rfl ?_
              refine hv_iload C dL_holds_198 0 rfl ?_
              refine hv_iconst C dL_holds_200 (v := zI (-1)) rfl ?_
              refine hv_icmp_eq C dL_holds_201 (tgt := 313) (by decide) (zI_eq (by omega)) (fun hc201 => ?_) (fun hc201 => ?_)
              · have h8 : (wo_cnt (wo_can (gH (lg L))) (hk_l (gS (lg L)) (gR (lg L)) (i + 1)) : Int) = (wo_cnt (wo_can (gH (lg L))) (hk_l (gS (lg L)) (gR (lg L)) i) : Int) := by rw [hk_cnt, if_neg (fun q => hna q.1), Nat.add_zero]
                have h9 : (wo_cnt (wo_isb (gS (lg L)) (gW (lg L)) (gR (lg L)) (gH (lg L))) (hk_l (gS (lg L)) (gR (lg L)) (i + 1)) : Int) = (wo_cnt (wo_isb (gS (lg L)) (gW (lg L)) (gR (lg L)) (gH (lg L))) (hk_l (gS (lg L)) (gR (lg L)) i) : Int) := by rw [hk_cnt, if_neg (fun q => hna q.1), Nat.add_zero]
                refine hv_lveq (lv' := [(15, .int (zI (-1))), (14, .int (zI (1 + (i : Int) % 3))), (13, .int (zI ((i : Int) / 9 + (i : Int) / 3 % 3))), (12, .int (zI ((i : Int) / 9))), (11, .int (zI ((i : Int)))), (10, .int (zI (1))), (9, .int (zI ((wo_cnt (wo_isb (gS (lg L)) (gW (lg L)) (gR (lg L)) (gH (lg L))) (hk_l (gS (lg L)) (gR (lg L)) (i + 1)) : Int)))), (8, .int (zI ((wo_cnt (wo_can (gH (lg L))) (hk_l (gS (lg L)) (gR (lg L)) (i + 1)) : Int)))), (0, .ref (a 0)), (1, .int (zI (lg L 0))), (2, .int (zI (lg L 5))), (3, .int (zI (ox_w (lg L)))), (4, .int (zI (wo_best (gS (lg L)) (gW (lg L)) (gR (lg L)) (gH (lg L))))), (5, .int (zI ((sp_lv (gH (lg L)) : Int)))), (6, .int (zI (lg L 0 - (sp_lc (gH (lg L)) : Int)))), (7, .int (zI (((gH (lg L)) : Int))))]) (by rw [h8, h9]) ?_
                refine hv_iinc C dL_holds_313 4 rfl (v := zI (((i + 1 : Nat) : Int))) ((zI_add _ _).trans (zI_c (by omega))) (by decide) (lw := [(11, .int (zI (((i + 1 : Nat) : Int)))), (15, .int (zI (-1))), (14, .int (zI (1 + (i : Int) % 3))), (13, .int (zI ((i : Int) / 9 + (i : Int) / 3 % 3))), (12, .int (zI ((i : Int) / 9))), (10, .int (zI (1))), (9, .int (zI ((wo_cnt (wo_isb (gS (lg L)) (gW (lg L)) (gR (lg L)) (gH (lg L))) (hk_l (gS (lg L)) (gR (lg L)) (i + 1)) : Int)))), (8, .int (zI ((wo_cnt (wo_can (gH (lg L))) (hk_l (gS (lg L)) (gR (lg L)) (i + 1)) : Int)))), (0, .ref (a 0)), (1, .int (zI (lg L 0))), (2, .int (zI (lg L 5))), (3, .int (zI (ox_w (lg L)))), (4, .int (zI (wo_best (gS (lg L)) (gW (lg L)) (gR (lg L)) (gH (lg L))))), (5, .int (zI ((sp_lv (gH (lg L)) : Int)))), (6, .int (zI (lg L 0 - (sp_lc (gH (lg L)) : Int)))), (7, .int (zI (((gH (lg L)) : Int))))]) rfl ?_
                refine hv_goto C dL_holds_316 (tgt := 126) (by decide) ?_
                refine hv_lsub [0, 5, 6, 7, 8, 9, 10, 11, 12, 13, 14, 15] (lv' := [(11, .int (zI (((i + 1 : Nat) : Int)))), (10, .int (zI (1))), (9, .int (zI ((wo_cnt (wo_isb (gS (lg L)) (gW (lg L)) (gR (lg L)) (gH (lg L))) (hk_l (gS (lg L)) (gR (lg L)) (i + 1)) : Int)))), (8, .int (zI ((wo_cnt (wo_can (gH (lg L))) (hk_l (gS (lg L)) (gR (lg L)) (i + 1)) : Int)))), (0, .ref (a 0)), (1, .int (zI (lg L 0))), (2, .int (zI (lg L 5))), (3, .int (zI (ox_w (lg L)))), (4, .int (zI (wo_best (gS (lg L)) (gW (lg L)) (gR (lg L)) (gH (lg L))))), (5, .int (zI ((sp_lv (gH (lg L)) : Int)))), (6, .int (zI (lg L 0 - (sp_lc (gH (lg L)) : Int)))), (7, .int (zI (((gH (lg L)) : Int))))]) rfl ?_
                obtain ⟨k9, rfl⟩ : ∃ k9, n9 = k9 + 1 := ⟨n9 - 1, by omega⟩
                refine hv_widen (ce' := 8 + 12 * (i + 1)) (sl' := 48 + 72 * (i + 1)) (by omega) (by omega) ?_
                exact ih k9 (i + 1, v) (by omega) ⟨by dsimp only; omega, hv1, hv2⟩
              · exact absurd hc201 (by omega)
            · refine hv_iload C dL_holds_172 1 rfl ?_
              refine hv_iload C dL_holds_174 2 rfl ?_
              refine hv_isub C dL_holds_176 (z := zI ((i : Int) / 3 % 3)) ((zI_sub _ _).trans (zI_c (by omega))) ?_
              refine hv_iload_n C dL_holds_177 9 rfl ?_
              refine hv_icmp_lt C dL_holds_178 (tgt := 185) (by decide) (zI_lt (by omega)) (fun hc178 => ?_) (fun hc178 => ?_)
              · have ha : hk_a (gS (lg L)) (gR (lg L)) i = true := hk_a_t (by omega) (by omega)
                rcases Classical.em (sp_cc (gH (lg L)) (hk_c i) = (gH (lg L))) with hcan | hcan
                · refine hv_aload_n C dL_holds_185 7 rfl ?_
                  refine hv_iload C dL_holds_186 2 rfl ?_
                  refine hv_iload C dL_holds_188 1 rfl ?_
                  refine hv_iload C dL_holds_190 0 rfl ?_
                  refine hv_iconst C dL_holds_192 (v := zI (0)) rfl ?_
                  refine hy_callS (As := [.ref (a 0), .int (zI ((i : Int) / 9)), .int (zI ((i : Int) / 9 + (i : Int) / 3 % 3)), .int (zI (1 + (i : Int) % 3)), .int (zI (0))]) (rest := []) (wc := ob_W dA a L v) (wr := []) C X (k_T_would l D dA sa hst a L v hJ hv1 ((i : Int) / 9) (by omega) ((i : Int) / 9 + (i : Int) / 3 % 3) (by omega) (1 + (i : Int) % 3) (by omega) (0) (by decide) hv2) (vx_cwSW 5 C.1.2.2.2.2 (hw_SH tw_m_RL_136 tw_t_L_would tw_n_RL tw_k_L_would) rfl rfl rfl (by decide +kernel) ⟨Nat.le_of_ble_eq_true rfl, Nat.le_of_ble_eq_true rfl⟩) (List.Perm.of_eq (List.append_nil _).symm) rfl rfl (Nat.le_of_ble_eq_true rfl) dL_holds_193 ⟨by show 8 + 12 * i + 4 ≤ 690; omega, by show 48 + 72 * i + 24 ≤ 4200; omega⟩ (fun u39 hu39 => ?_)
                  have haj39 := ob_pj hu39 hv2
                  refine hv_weq (ws' := ob_W dA a L u39) (List.append_nil _) ?_
                  refine hv_eqst (st' := [.int (zI (an_would L ((i : Int) / 9) ((i : Int) / 9 + (i : Int) / 3 % 3) (1 + (i : Int) % 3) (0)))]) rfl ?_
                  refine hv_topi (y := zI (-1)) (by rw [show an_would L ((i : Int) / 9) ((i : Int) / 9 + (i : Int) / 3 % 3) (1 + (i : Int) % 3) (0) = -1 from (an_wou (by omega) (by decide)).trans (xa_ifc_f (c := hk_c i) (0) (by omega) hec hcan)]) ?_
                  refine hv_istore C dL_holds_196 (lw := [(15, .int (zI (-1))), (14, .int (zI (1 + (i : Int) % 3))), (13, .int (zI ((i : Int) / 9 + (i : Int) / 3 % 3))), (12, .int (zI ((i : Int) / 9))), (11, .int (zI ((i : Int)))), (10, .int (zI (1))), (9, .int (zI ((wo_cnt (wo_isb (gS (lg L)) (gW (lg L)) (gR (lg L)) (gH (lg L))) (hk_l (gS (lg L)) (gR (lg L)) i) : Int)))), (8, .int (zI ((wo_cnt (wo_can (gH (lg L))) (hk_l (gS (lg L)) (gR (lg L)) i) : Int)))), (0, .ref (a 0)), (1, .int (zI (lg L 0))), (2, .int (zI (lg L 5))), (3, .int (zI (ox_w (lg L)))), (4, .int (zI (wo_best (gS (lg L)) (gW (lg L)) (gR (lg L)) (gH (lg L))))), (5, .int (zI ((sp_lv (gH (lg L)) : Int)))), (6, .int (zI (lg L 0 - (sp_lc (gH (lg L)) : Int)))), (7, .int (zI (((gH (lg L)) : Int))))]) (by decide) rfl ?_
                  refine hv_iload C dL_holds_198 0 rfl ?_
                  refine hv_iconst C dL_holds_200 (v := zI (-1)) rfl ?_
                  refine hv_icmp_eq C dL_holds_201 (tgt := 313) (by decide) (zI_eq (by omega)) (fun hc201 => ?_) (fun hc201 => ?_)
                  · have hcf : ¬ wo_can (gH (lg L)) (hk_c i) = true := fun q => absurd (decide_eq_true hcan) (by unfold wo_can at q; simpa using q)
                    have h6 := wo_6 (w := (gW (lg L))) hS hR hg.H
                    have hns : ¬ wo_gain (gS (lg L)) (gW (lg L)) (wo (gS (lg L)) (gW (lg L)) (gR (lg L))) (gH (lg L)) (hk_c i) = wo (gS (lg L)) (gW (lg L)) (gR (lg L)) (gH (lg L)) := fun q => by unfold wo_gain at q; rw [if_pos hcan] at q; omega
                    have h8 : (wo_cnt (wo_can (gH (lg L))) (hk_l (gS (lg L)) (gR (lg L)) (i + 1)) : Int) = (wo_cnt (wo_can (gH (lg L))) (hk_l (gS (lg L)) (gR (lg L)) i) : Int) := by rw [hk_cnt, if_neg (fun q => hcf q.2), Nat.add_zero]
                    have h9 : (wo_cnt (wo_isb (gS (lg L)) (gW (lg L)) (gR (lg L)) (gH (lg L))) (hk_l (gS (lg L)) (gR (lg L)) (i + 1)) : Int) = (wo_cnt (wo_isb (gS (lg L)) (gW (lg L)) (gR (lg L)) (gH (lg L))) (hk_l (gS (lg L)) (gR (lg L)) i) : Int) := by rw [hk_cnt, if_neg (fun q => hns (of_decide_eq_true q.2)), Nat.add_zero]
                    refine hv_lveq (lv' := [(15, .int (zI (-1))), (14, .int (zI (1 + (i : Int) % 3))), (13, .int (zI ((i : Int) / 9 + (i : Int) / 3 % 3))), (12, .int (zI ((i : Int) / 9))), (11, .int (zI ((i : Int)))), (10, .int (zI (1))), (9, .int (zI ((wo_cnt (wo_isb (gS (lg L)) (gW (lg L)) (gR (lg L)) (gH (lg L))) (hk_l (gS (lg L)) (gR (lg L)) (i + 1)) : Int)))), (8, .int (zI ((wo_cnt (wo_can (gH (lg L))) (hk_l (gS (lg L)) (gR (lg L)) (i + 1)) : Int)))), (0, .ref (a 0)), (1, .int (zI (lg L 0))), (2, .int (zI (lg L 5))), (3, .int (zI (ox_w (lg L)))), (4, .int (zI (wo_best (gS (lg L)) (gW (lg L)) (gR (lg L)) (gH (lg L))))), (5, .int (zI ((sp_lv (gH (lg L)) : Int)))), (6, .int (zI (lg L 0 - (sp_lc (gH (lg L)) : Int)))), (7, .int (zI (((gH (lg L)) : Int))))]) (by rw [h8, h9]) ?_
                    refine hv_iinc C dL_holds_313 4 rfl (v := zI (((i + 1 : Nat) : Int))) ((zI_add _ _).trans (zI_c (by omega))) (by decide) (lw := [(11, .int (zI (((i + 1 : Nat) : Int)))), (15, .int (zI (-1))), (14, .int (zI (1 + (i : Int) % 3))), (13, .int (zI ((i : Int) / 9 + (i : Int) / 3 % 3))), (12, .int (zI ((i : Int) / 9))), (10, .int (zI (1))), (9, .int (zI ((wo_cnt (wo_isb (gS (lg L)) (gW (lg L)) (gR (lg L)) (gH (lg L))) (hk_l (gS (lg L)) (gR (lg L)) (i + 1)) : Int)))), (8, .int (zI ((wo_cnt (wo_can (gH (lg L))) (hk_l (gS (lg L)) (gR (lg L)) (i + 1)) : Int)))), (0, .ref (a 0)), (1, .int (zI (lg L 0))), (2, .int (zI (lg L 5))), (3, .int (zI (ox_w (lg L)))), (4, .int (zI (wo_best (gS (lg L)) (gW (lg L)) (gR (lg L)) (gH (lg L))))), (5, .int (zI ((sp_lv (gH (lg L)) : Int)))), (6, .int (zI (lg L 0 - (sp_lc (gH (lg L)) : Int)))), (7, .int (zI (((gH (lg L)) : Int))))]) rfl ?_
                    refine hv_goto C dL_holds_316 (tgt := 126) (by decide) ?_
                    refine hv_lsub [0, 5, 6, 7, 8, 9, 10, 11, 12, 13, 14, 15] (lv' := [(11, .int (zI (((i + 1 : Nat) : Int)))), (10, .int (zI (1))), (9, .int (zI ((wo_cnt (wo_isb (gS (lg L)) (gW (lg L)) (gR (lg L)) (gH (lg L))) (hk_l (gS (lg L)) (gR (lg L)) (i + 1)) : Int)))), (8, .int (zI ((wo_cnt (wo_can (gH (lg L))) (hk_l (gS (lg L)) (gR (lg L)) (i + 1)) : Int)))), (0, .ref (a 0)), (1, .int (zI (lg L 0))), (2, .int (zI (lg L 5))), (3, .int (zI (ox_w (lg L)))), (4, .int (zI (wo_best (gS (lg L)) (gW (lg L)) (gR (lg L)) (gH (lg L))))), (5, .int (zI ((sp_lv (gH (lg L)) : Int)))), (6, .int (zI (lg L 0 - (sp_lc (gH (lg L)) : Int)))), (7, .int (zI (((gH (lg L)) : Int))))]) rfl ?_
                    obtain ⟨k9, rfl⟩ : ∃ k9, n9 = k9 + 1 := ⟨n9 - 1, by omega⟩
                    refine hv_widen (ce' := 8 + 12 * (i + 1)) (sl' := 48 + 72 * (i + 1)) (by omega) (by omega) ?_
                    exact ih k9 (i + 1, u39) (by omega) ⟨by dsimp only; omega, hu39.1, haj39⟩
                  · exact absurd hc201 (by omega)
                · have h0 : 0 < (gH (lg L)) := by rcases Nat.eq_zero_or_pos (gH (lg L)) with z | z; exact absurd (by rw [z]; exact sp_cc0 _) hcan; exact z
                  have hmem := hk_mem hS hR (show i < 9 * gS (lg L) by omega) ha
                  obtain ⟨bb, hb1, hb2, hb3, hb4, hb5, hb6⟩ := wo_best_pos (w := (gW (lg L))) hS hR hg.H h0
                  have hbo := ob_bok hS hR hb1
                  have hfi := fv_fi hg (hk_c i)
                  have hGr := fv_ran hg4 (wo_gran (w := (gW (lg L))) (c := hk_c i) hS hR hg.H)
                  have hwr : -54 ≤ ox_w (lg L) ∧ ox_w (lg L) ≤ 54 := ox_w_ran hg hg.H
                  have hwd : ox_w (lg L) = lg L 4 * wo (gS (lg L)) (gW (lg L)) (gR (lg L)) (gH (lg L)) := rfl
                  have hwb := ox_w_ran hg (b := (sp_bh (gS (lg L)) (gW (lg L)) (gH (lg L)) (hk_c i))) (Nat.lt_of_le_of_lt (sp_bh_le _ _ _ _) hg.H)
                  have hle : lg L 4 * wo_gain (gS (lg L)) (gW (lg L)) (wo (gS (lg L)) (gW (lg L)) (gR (lg L))) (gH (lg L)) (hk_c i) ≤ ox_w (lg L) := fv_le hg4 (wo_gain_le h0 hmem)
                  have hlt := sp_bh_lt (S := (gS (lg L))) (w := (gW (lg L))) hcan
                  have hki : hk_c i < 1000 := by omega
                  refine hv_aload_n C dL_holds_185 7 rfl ?_
                  refine hv_iload C dL_holds_186 2 rfl ?_
                  refine hv_iload C dL_holds_188 1 rfl ?_
                  refine hv_iload C dL_holds_190 0 rfl ?_
                  refine hv_iconst C dL_holds_192 (v := zI (0)) rfl ?_
                  refine hy_callS (As := [.ref (a 0), .int (zI ((i : Int) / 9)), .int (zI ((i : Int) / 9 + (i : Int) / 3 % 3)), .int (zI (1 + (i : Int) % 3)), .int (zI (0))]) (rest := []) (wc := ob_W dA a L v) (wr := []) C X (k_T_would l D dA sa hst a L v hJ hv1 ((i : Int) / 9) (by omega) ((i : Int) / 9 + (i : Int) / 3 % 3) (by omega) (1 + (i : Int) % 3) (by omega) (0) (by decide) hv2) (vx_cwSW 5 C.1.2.2.2.2 (hw_SH tw_m_RL_136 tw_t_L_would tw_n_RL tw_k_L_would) rfl rfl rfl (by decide +kernel) ⟨Nat.le_of_ble_eq_true rfl, Nat.le_of_ble_eq_true rfl⟩) (List.Perm.of_eq (List.append_nil _).symm) rfl rfl (Nat.le_of_ble_eq_true rfl) dL_holds_193 ⟨by show 8 + 12 * i + 4 ≤ 690; omega, by show 48 + 72 * i + 24 ≤ 4200; omega⟩ (fun u40 hu40 => ?_)
                  have haj40 := ob_pj hu40 hv2
                  refine hv_weq (ws' := ob_W dA a L u40) (List.append_nil _) ?_
                  refine hv_eqst (st' := [.int (zI (an_would L ((i : Int) / 9) ((i : Int) / 9 + (i : Int) / 3 % 3) (1 + (i : Int) % 3) (0)))]) rfl ?_
                  refine hv_topi (y := zI (lg L 4 * ((sp_lc (gH (lg L)) : Int) - (sp_lc (sp_bh (gS (lg L)) (gW (lg L)) (gH (lg L)) (hk_c i)) : Int)))) (by rw [show an_would L ((i : Int) / 9) ((i : Int) / 9 + (i : Int) / 3 % 3) (1 + (i : Int) % 3) (0) = lg L 4 * ((sp_lc (gH (lg L)) : Int) - (sp_lc (sp_bh (gS (lg L)) (gW (lg L)) (gH (lg L)) (hk_c i)) : Int)) from (an_wou (by omega) (by decide)).trans (xa_ifc_t (c := hk_c i) (0) (by omega) hec hcan)]) ?_
                  refine hv_istore C dL_holds_196 (lw := [(15, .int (zI (lg L 4 * ((sp_lc (gH (lg L)) : Int) - (sp_lc (sp_bh (gS (lg L)) (gW (lg L)) (gH (lg L)) (hk_c i)) : Int))))), (14, .int (zI (1 + (i : Int) % 3))), (13, .int (zI ((i : Int) / 9 + (i : Int) / 3 % 3))), (12, .int (zI ((i : Int) / 9))), (11, .int (zI ((i : Int)))), (10, .int (zI (1))), (9, .int (zI ((wo_cnt (wo_isb (gS (lg L)) (gW (lg L)) (gR (lg L)) (gH (lg L))) (hk_l (gS (lg L)) (gR (lg L)) i) : Int)))), (8, .int (zI ((wo_cnt (wo_can (gH (lg L))) (hk_l (gS (lg L)) (gR (lg L)) i) : Int)))), (0, .ref (a 0)), (1, .int (zI (lg L 0))), (2, .int (zI (lg L 5))), (3, .int (zI (ox_w (lg L)))), (4, .int (zI (wo_best (gS (lg L)) (gW (lg L)) (gR (lg L)) (gH (lg L))))), (5, .int (zI ((sp_lv (gH (lg L)) : Int)))), (6, .int (zI (lg L 0 - (sp_lc (gH (lg L)) : Int)))), (7, .int (zI (((gH (lg L)) : Int))))]) (by decide) rfl ?_
                  refine hv_iload C dL_holds_198 0 rfl ?_
                  refine hv_iconst C dL_holds_200 (v := zI (-1)) rfl ?_
                  refine hv_icmp_eq C dL_holds_201 (tgt := 313) (by decide) (zI_eq (by omega)) (fun hc201 => ?_) (fun hc201 => ?_)
                  · exact absurd hc201 (by omega)
                  · refine hv_bipush C dL_holds_204 (v := zI (100)) (by decide +kernel) ?_
                    refine hv_aload_n C dL_holds_206 8 rfl ?_
                    refine hv_iload C dL_holds_207 3 rfl ?_
                    refine hv_iload C dL_holds_209 2 rfl ?_
                    refine hv_iload C dL_holds_211 1 rfl ?_
                    refine hv_iconst C dL_holds_213 (v := zI (2)) rfl ?_
                    refine hy_callS (As := [.ref (a 0), .int (zI ((i : Int) / 9)), .int (zI ((i : Int) / 9 + (i : Int) / 3 % 3)), .int (zI (1 + (i : Int) % 3)), .int (zI (2))]) (rest := [.int (zI (100))]) (wc := ob_W dA a L u40) (wr := []) C X (k_T_would l D dA sa hst a L u40 hJ hu40.1 ((i : Int) / 9) (by omega) ((i : Int) / 9 + (i : Int) / 3 % 3) (by omega) (1 + (i : Int) % 3) (by omega) (2) (by decide) haj40) (vx_cwSW 5 C.1.2.2.2.2 (hw_SH tw_m_RL_136 tw_t_L_would tw_n_RL tw_k_L_would) rfl rfl rfl (by decide +kernel) ⟨Nat.le_of_ble_eq_true rfl, Nat.le_of_ble_eq_true rfl⟩) (List.Perm.of_eq (List.append_nil _).symm) rfl rfl (Nat.le_of_ble_eq_true rfl) dL_holds_214 ⟨by show 8 + 12 * i + 4 + 4 ≤ 690; omega, by show 48 + 72 * i + 24 + 24 ≤ 4200; omega⟩ (fun u41 hu41 => ?_)
                    have haj41 := ob_pj hu41 haj40
                    refine hv_weq (ws' := ob_W dA a L u41) (List.append_nil _) ?_
                    refine hv_eqst (st' := [.int (zI (an_would L ((i : Int) / 9) ((i : Int) / 9 + (i : Int) / 3 % 3) (1 + (i : Int) % 3) (2))), .int (zI (100))]) rfl ?_
                    refine hv_topi (y := zI (100 + lg L 4 * ox_wo (lg L) (sp_bh (gS (lg L)) (gW (lg L)) (gH (lg L)) (hk_c i)))) (by rw [show an_would L ((i : Int) / 9) ((i : Int) / 9 + (i : Int) / 3 % 3) (1 + (i : Int) % 3) (2) = 100 + lg L 4 * ox_wo (lg L) (sp_bh (gS (lg L)) (gW (lg L)) (gH (lg L)) (hk_c i)) from (an_wou (by omega) (by decide)).trans (xa_ifc_t (c := hk_c i) (2) (by omega) hec hcan)]) ?_
                    refine hv_isub C dL_holds_217 (z := zI (100 - (100 + lg L 4 * ox_wo (lg L) (sp_bh (gS (lg L)) (gW (lg L)) (gH (lg L)) (hk_c i))))) ((zI_sub _ _).trans (zI_c (by rfl))) ?_
                    refine hv_iload C dL_holds_218 0 rfl ?_
                    refine hv_isub C dL_holds_220 (z := zI (lg L 4 * wo_gain (gS (lg L)) (gW (lg L)) (wo (gS (lg L)) (gW (lg L)) (gR (lg L))) (gH (lg L)) (hk_c i))) ((zI_sub _ _).trans (zI_c (by exact fv_gain hcan))) ?_
                    refine hv_istore C dL_holds_221 (lw := [(16, .int (zI (lg L 4 * wo_gain (gS (lg L)) (gW (lg L)) (wo (gS (lg L)) (gW (lg L)) (gR (lg L))) (gH (lg L)) (hk_c i)))), (15, .int (zI (lg L 4 * ((sp_lc (gH (lg L)) : Int) - (sp_lc (sp_bh (gS (lg L)) (gW (lg L)) (gH (lg L)) (hk_c i)) : Int))))), (14, .int (zI (1 + (i : Int) % 3))), (13, .int (zI ((i : Int) / 9 + (i : Int) / 3 % 3))), (12, .int (zI ((i : Int) / 9))), (11, .int (zI ((i : Int)))), (10, .int (zI (1))), (9, .int (zI ((wo_cnt (wo_isb (gS (lg L)) (gW (lg L)) (gR (lg L)) (gH (lg L))) (hk_l (gS (lg L)) (gR (lg L)) i) : Int)))), (8, .int (zI ((wo_cnt (wo_can (gH (lg L))) (hk_l (gS (lg L)) (gR (lg L)) i) : Int)))), (0, .ref (a 0)), (1, .int (zI (lg L 0))), (2, .int (zI (lg L 5))), (3, .int (zI (ox_w (lg L)))), (4, .int (zI (wo_best (gS (lg L)) (gW (lg L)) (gR (lg L)) (gH (lg L))))), (5, .int (zI ((sp_lv (gH (lg L)) : Int)))), (6, .int (zI (lg L 0 - (sp_lc (gH (lg L)) : Int)))), (7, .int (zI (((gH (lg L)) : Int))))]) (by decide) rfl ?_
                    refine hv_bipush C dL_holds_223 (v := zI (100)) (by decide +kernel) ?_
                    refine hv_iload C dL_holds_225 4 rfl ?_
                    refine hv_imul C dL_holds_227 (z := zI (100 * ((i : Int) / 9))) ((zI_mul _ _).trans (zI_c (by rfl))) ?_
                    refine hv_bipush C dL_holds_228 (v := zI (10)) (by decide +kernel) ?_
                    refine hv_iload C dL_holds_230 3 rfl ?_
                    refine hv_imul C dL_holds_232 (z := zI (10 * ((i : Int) / 9 + (i : Int) / 3 % 3))) ((zI_mul _ _).trans (zI_c (by rfl))) ?_
                    refine hv_iadd C dL_holds_233 (z := zI (100 * ((i : Int) / 9) + 10 * ((i : Int) / 9 + (i : Int) / 3 % 3))) ((zI_add _ _).trans (zI_c (by rfl))) ?_
                    refine hv_iload C dL_holds_234 2 rfl ?_
                    refine hv_iadd C dL_holds_236 (z := zI ((hk_c i : Int))) ((zI_add _ _).trans (zI_c (by omega))) ?_
                    refine hv_istore C dL_holds_237 (lw := [(17, .int (zI ((hk_c i : Int)))), (16, .int (zI (lg L 4 * wo_gain (gS (lg L)) (gW (lg L)) (wo (gS (lg L)) (gW (lg L)) (gR (lg L))) (gH (lg L)) (hk_c i)))), (15, .int (zI (lg L 4 * ((sp_lc (gH (lg L)) : Int) - (sp_lc (sp_bh (gS (lg L)) (gW (lg L)) (gH (lg L)) (hk_c i)) : Int))))), (14, .int (zI (1 + (i : Int) % 3))), (13, .int (zI ((i : Int) / 9 + (i : Int) / 3 % 3))), (12, .int (zI ((i : Int) / 9))), (11, .int (zI ((i : Int)))), (10, .int (zI (1))), (9, .int (zI ((wo_cnt (wo_isb (gS (lg L)) (gW (lg L)) (gR (lg L)) (gH (lg L))) (hk_l (gS (lg L)) (gR (lg L)) i) : Int)))), (8, .int (zI ((wo_cnt (wo_can (gH (lg L))) (hk_l (gS (lg L)) (gR (lg L)) i) : Int)))), (0, .ref (a 0)), (1, .int (zI (lg L 0))), (2, .int (zI (lg L 5))), (3, .int (zI (ox_w (lg L)))), (4, .int (zI (wo_best (gS (lg L)) (gW (lg L)) (gR (lg L)) (gH (lg L))))), (5, .int (zI ((sp_lv (gH (lg L)) : Int)))), (6, .int (zI (lg L 0 - (sp_lc (gH (lg L)) : Int)))), (7, .int (zI (((gH (lg L)) : Int))))]) (by decide) rfl ?_
                    refine hv_iinc C dL_holds_239 9 rfl (v := zI ((wo_cnt (wo_can (gH (lg L))) (hk_l (gS (lg L)) (gR (lg L)) i) : Int) + 1)) ((zI_add _ _).trans (zI_c (by rfl))) (by decide) (lw := [(8, .int (zI ((wo_cnt (wo_can (gH (lg L))) (hk_l (gS (lg L)) (gR (lg L)) i) : Int) + 1))), (17, .int (zI ((hk_c i : Int)))), (16, .int (zI (lg L 4 * wo_gain (gS (lg L)) (gW (lg L)) (wo (gS (lg L)) (gW (lg L)) (gR (lg L))) (gH (lg L)) (hk_c i)))), (15, .int (zI (lg L 4 * ((sp_lc (gH (lg L)) : Int) - (sp_lc (sp_bh (gS (lg L)) (gW (lg L)) (gH (lg L)) (hk_c i)) : Int))))), (14, .int (zI (1 + (i : Int) % 3))), (13, .int (zI ((i : Int) / 9 + (i : Int) / 3 % 3))), (12, .int (zI ((i : Int) / 9))), (11, .int (zI ((i : Int)))), (10, .int (zI (1))), (9, .int (zI ((wo_cnt (wo_isb (gS (lg L)) (gW (lg L)) (gR (lg L)) (gH (lg L))) (hk_l (gS (lg L)) (gR (lg L)) i) : Int)))), (0, .ref (a 0)), (1, .int (zI (lg L 0))), (2, .int (zI (lg L 5))), (3, .int (zI (ox_w (lg L)))), (4, .int (zI (wo_best (gS (lg L)) (gW (lg L)) (gR (lg L)) (gH (lg L))))), (5, .int (zI ((sp_lv (gH (lg L)) : Int)))), (6, .int (zI (lg L 0 - (sp_lc (gH (lg L)) : Int)))), (7, .int (zI (((gH (lg L)) : Int))))]) rfl ?_
                    refine hv_iload C dL_holds_242 9 rfl ?_
                    refine hv_iload C dL_holds_244 2 rfl ?_
                    refine hv_iload_n C dL_holds_246 13 rfl ?_
                    refine hv_icmp_ne C dL_holds_247 (tgt := 254) (by decide) (zI_ne (by omega)) (fun hc247 => ?_) (fun hc247 => ?_)
                    · have hNE : ¬ lg L 4 * wo_gain (gS (lg L)) (gW (lg L)) (wo (gS (lg L)) (gW (lg L)) (gR (lg L))) (gH (lg L)) (hk_c i) = ox_w (lg L) := hc247
                      refine hv_iconst C dL_holds_254 (v := zI (0)) rfl ?_
                      refine hv_iadd C dL_holds_255 (z := zI ((wo_cnt (wo_isb (gS (lg L)) (gW (lg L)) (gR (lg L)) (gH (lg L))) (hk_l (gS (lg L)) (gR (lg L)) i) : Int))) ((zI_add _ _).trans (zI_c (by omega))) ?_
                      refine hv_istore C dL_holds_256 (lw := [(9, .int (zI ((wo_cnt (wo_isb (gS (lg L)) (gW (lg L)) (gR (lg L)) (gH (lg L))) (hk_l (gS (lg L)) (gR (lg L)) i) : Int)))), (8, .int (zI ((wo_cnt (wo_can (gH (lg L))) (hk_l (gS (lg L)) (gR (lg L)) i) : Int) + 1))), (17, .int (zI ((hk_c i : Int)))), (16, .int (zI (lg L 4 * wo_gain (gS (lg L)) (gW (lg L)) (wo (gS (lg L)) (gW (lg L)) (gR (lg L))) (gH (lg L)) (hk_c i)))), (15, .int (zI (lg L 4 * ((sp_lc (gH (lg L)) : Int) - (sp_lc (sp_bh (gS (lg L)) (gW (lg L)) (gH (lg L)) (hk_c i)) : Int))))), (14, .int (zI (1 + (i : Int) % 3))), (13, .int (zI ((i : Int) / 9 + (i : Int) / 3 % 3))), (12, .int (zI ((i : Int) / 9))), (11, .int (zI ((i : Int)))), (10, .int (zI (1))), (0, .ref (a 0)), (1, .int (zI (lg L 0))), (2, .int (zI (lg L 5))), (3, .int (zI (ox_w (lg L)))), (4, .int (zI (wo_best (gS (lg L)) (gW (lg L)) (gR (lg L)) (gH (lg L))))), (5, .int (zI ((sp_lv (gH (lg L)) : Int)))), (6, .int (zI (lg L 0 - (sp_lc (gH (lg L)) : Int)))), (7, .int (zI (((gH (lg L)) : Int))))]) (by decide) rfl ?_
                      refine hv_iload C dL_holds_258 3 rfl ?_
                      refine hv_iload_n C dL_holds_260 13 rfl ?_
                      refine hv_icmp_gt C dL_holds_261 (tgt := 310) (by decide) (zI_lt (by omega)) (fun hc261 => ?_) (fun hc261 => ?_)
                      · exact absurd hc261 (by omega)
                      · refine hv_iload C dL_holds_264 3 rfl ?_
                        refine hv_iload_n C dL_holds_266 13 rfl ?_
                        refine hv_icmp_lt C dL_holds_267 (tgt := 277) (by decide) (zI_lt (by omega)) (fun hc267 => ?_) (fun hc267 => ?_)
                        · refine hv_iload C dL_holds_277 2 rfl ?_
                          refine hv_iload C dL_holds_279 14 rfl ?_
                          refine hv_icmp_ne C dL_holds_281 (tgt := 290) (by decide) (zI_ne (by omega)) (fun hc281 => ?_) (fun hc281 => ?_)
                          · refine hv_aload_n C dL_holds_290 10 rfl ?_
                            refine hv_iload C dL_holds_291 7 rfl ?_
                            refine hv_iload C dL_holds_293 6 rfl ?_
                            refine hv_iload C dL_holds_295 5 rfl ?_
                            refine hv_iconst C dL_holds_297 (v := zI (1)) rfl ?_
                            refine hy_callS (As := [.ref (a 0), .int (zI ((i : Int) / 9)), .int (zI ((i : Int) / 9 + (i : Int) / 3 % 3)), .int (zI (1 + (i : Int) % 3)), .int (zI (1))]) (rest := []) (wc := ob_W dA a L u41) (wr := []) C X (k_T_would l D dA sa hst a L u41 hJ hu41.1 ((i : Int) / 9) (by omega) ((i : Int) / 9 + (i : Int) / 3 % 3) (by omega) (1 + (i : Int) % 3) (by omega) (1) (by decide) haj41) (vx_cwSW 5 C.1.2.2.2.2 (hw_SH tw_m_RL_136 tw_t_L_would tw_n_RL tw_k_L_would) rfl rfl rfl (by decide +kernel) ⟨Nat.le_of_ble_eq_true rfl, Nat.le_of_ble_eq_true rfl⟩) (List.Perm.of_eq (List.append_nil _).symm) rfl rfl (Nat.le_of_ble_eq_true rfl) dL_holds_298 ⟨by show 8 + 12 * i + 4 + 4 + 4 ≤ 690; omega, by show 48 + 72 * i + 24 + 24 + 24 ≤ 4200; omega⟩ (fun u42 hu42 => ?_)
                            have haj42 := ob_pj hu42 haj41
                            refine hv_weq (ws' := ob_W dA a L u42) (List.append_nil _) ?_
                            refine hv_eqst (st' := [.int (zI (an_would L ((i : Int) / 9) ((i : Int) / 9 + (i : Int) / 3 % 3) (1 + (i : Int) % 3) (1)))]) rfl ?_
                            refine hv_topi (y := zI (((sp_bh (gS (lg L)) (gW (lg L)) (gH (lg L)) (hk_c i)) : Int))) (by rw [show an_would L ((i : Int) / 9) ((i : Int) / 9 + (i : Int) / 3 % 3) (1 + (i : Int) % 3) (1) = ((sp_bh (gS (lg L)) (gW (lg L)) (gH (lg L)) (hk_c i)) : Int) from (an_wou (by omega) (by decide)).trans (xa_ifc_t (c := hk_c i) (1) (by omega) hec hcan)]) ?_
                            refine hv_iload C dL_holds_301 17 rfl ?_
                            refine hv_icmp_ge C dL_holds_303 (tgt := 310) (by decide) (zI_le (by omega)) (fun hc303 => ?_) (fun hc303 => ?_)
                            · exact absurd hc303 (by omega)
                            · refine hv_iconst C dL_holds_306 (v := zI (1)) rfl ?_
                              refine hv_goto C dL_holds_307 (tgt := 311) (by decide) ?_
                              refine hv_istore C dL_holds_311 (lw := [(10, .int (zI (1))), (9, .int (zI ((wo_cnt (wo_isb (gS (lg L)) (gW (lg L)) (gR (lg L)) (gH (lg L))) (hk_l (gS (lg L)) (gR (lg L)) i) : Int)))), (8, .int (zI ((wo_cnt (wo_can (gH (lg L))) (hk_l (gS (lg L)) (gR (lg L)) i) : Int) + 1))), (17, .int (zI ((hk_c i : Int)))), (16, .int (zI (lg L 4 * wo_gain (gS (lg L)) (gW (lg L)) (wo (gS (lg L)) (gW (lg L)) (gR (lg L))) (gH (lg L)) (hk_c i)))), (15, .int (zI (lg L 4 * ((sp_lc (gH (lg L)) : Int) - (sp_lc (sp_bh (gS (lg L)) (gW (lg L)) (gH (lg L)) (hk_c i)) : Int))))), (14, .int (zI (1 + (i : Int) % 3))), (13, .int (zI ((i : Int) / 9 + (i : Int) / 3 % 3))), (12, .int (zI ((i : Int) / 9))), (11, .int (zI ((i : Int)))), (0, .ref (a 0)), (1, .int (zI (lg L 0))), (2, .int (zI (lg L 5))), (3, .int (zI (ox_w (lg L)))), (4, .int (zI (wo_best (gS (lg L)) (gW (lg L)) (gR (lg L)) (gH (lg L))))), (5, .int (zI ((sp_lv (gH (lg L)) : Int)))), (6, .int (zI (lg L 0 - (sp_lc (gH (lg L)) : Int)))), (7, .int (zI (((gH (lg L)) : Int))))]) (by decide) rfl ?_
                              have hct : wo_can (gH (lg L)) (hk_c i) = true := by unfold wo_can; rw [decide_eq_false hcan]; rfl
                              have hns : ¬ wo_gain (gS (lg L)) (gW (lg L)) (wo (gS (lg L)) (gW (lg L)) (gR (lg L))) (gH (lg L)) (hk_c i) = wo (gS (lg L)) (gW (lg L)) (gR (lg L)) (gH (lg L)) := fun q => hNE (by rw [q]; rfl)
                              have h8 : (wo_cnt (wo_can (gH (lg L))) (hk_l (gS (lg L)) (gR (lg L)) (i + 1)) : Int) = (wo_cnt (wo_can (gH (lg L))) (hk_l (gS (lg L)) (gR (lg L)) i) : Int) + 1 := by rw [hk_cnt, if_pos ⟨ha, hct⟩]; omega
                              have h9 : (wo_cnt (wo_isb (gS (lg L)) (gW (lg L)) (gR (lg L)) (gH (lg L))) (hk_l (gS (lg L)) (gR (lg L)) (i + 1)) : Int) = (wo_cnt (wo_isb (gS (lg L)) (gW (lg L)) (gR (lg L)) (gH (lg L))) (hk_l (gS (lg L)) (gR (lg L)) i) : Int) := by rw [hk_cnt, if_neg (fun q => hns (of_decide_eq_true q.2)), Nat.add_zero]
                              refine hv_lveq (lv' := [(10, .int (zI (1))), (9, .int (zI ((wo_cnt (wo_isb (gS (lg L)) (gW (lg L)) (gR (lg L)) (gH (lg L))) (hk_l (gS (lg L)) (gR (lg L)) (i + 1)) : Int)))), (8, .int (zI ((wo_cnt (wo_can (gH (lg L))) (hk_l (gS (lg L)) (gR (lg L)) (i + 1)) : Int)))), (17, .int (zI ((hk_c i : Int)))), (16, .int (zI (lg L 4 * wo_gain (gS (lg L)) (gW (lg L)) (wo (gS (lg L)) (gW (lg L)) (gR (lg L))) (gH (lg L)) (hk_c i)))), (15, .int (zI (lg L 4 * ((sp_lc (gH (lg L)) : Int) - (sp_lc (sp_bh (gS (lg L)) (gW (lg L)) (gH (lg L)) (hk_c i)) : Int))))), (14, .int (zI (1 + (i : Int) % 3))), (13, .int (zI ((i : Int) / 9 + (i : Int) / 3 % 3))), (12, .int (zI ((i : Int) / 9))), (11, .int (zI ((i : Int)))), (0, .ref (a 0)), (1, .int (zI (lg L 0))), (2, .int (zI (lg L 5))), (3, .int (zI (ox_w (lg L)))), (4, .int (zI (wo_best (gS (lg L)) (gW (lg L)) (gR (lg L)) (gH (lg L))))), (5, .int (zI ((sp_lv (gH (lg L)) : Int)))), (6, .int (zI (lg L 0 - (sp_lc (gH (lg L)) : Int)))), (7, .int (zI (((gH (lg L)) : Int))))]) (by rw [h8, h9]) ?_
                              refine hv_iinc C dL_holds_313 9 rfl (v := zI (((i + 1 : Nat) : Int))) ((zI_add _ _).trans (zI_c (by omega))) (by decide) (lw := [(11, .int (zI (((i + 1 : Nat) : Int)))), (10, .int (zI (1))), (9, .int (zI ((wo_cnt (wo_isb (gS (lg L)) (gW (lg L)) (gR (lg L)) (gH (lg L))) (hk_l (gS (lg L)) (gR (lg L)) (i + 1)) : Int)))), (8, .int (zI ((wo_cnt (wo_can (gH (lg L))) (hk_l (gS (lg L)) (gR (lg L)) (i + 1)) : Int)))), (17, .int (zI ((hk_c i : Int)))), (16, .int (zI (lg L 4 * wo_gain (gS (lg L)) (gW (lg L)) (wo (gS (lg L)) (gW (lg L)) (gR (lg L))) (gH (lg L)) (hk_c i)))), (15, .int (zI (lg L 4 * ((sp_lc (gH (lg L)) : Int) - (sp_lc (sp_bh (gS (lg L)) (gW (lg L)) (gH (lg L)) (hk_c i)) : Int))))), (14, .int (zI (1 + (i : Int) % 3))), (13, .int (zI ((i : Int) / 9 + (i : Int) / 3 % 3))), (12, .int (zI ((i : Int) / 9))), (0, .ref (a 0)), (1, .int (zI (lg L 0))), (2, .int (zI (lg L 5))), (3, .int (zI (ox_w (lg L)))), (4, .int (zI (wo_best (gS (lg L)) (gW (lg L)) (gR (lg L)) (gH (lg L))))), (5, .int (zI ((sp_lv (gH (lg L)) : Int)))), (6, .int (zI (lg L 0 - (sp_lc (gH (lg L)) : Int)))), (7, .int (zI (((gH (lg L)) : Int))))]) rfl ?_
                              refine hv_goto C dL_holds_316 (tgt := 126) (by decide) ?_
                              refine hv_lsub [0, 1, 2, 3, 10, 11, 12, 13, 14, 15, 16, 17] (lv' := [(11, .int (zI (((i + 1 : Nat) : Int)))), (10, .int (zI (1))), (9, .int (zI ((wo_cnt (wo_isb (gS (lg L)) (gW (lg L)) (gR (lg L)) (gH (lg L))) (hk_l (gS (lg L)) (gR (lg L)) (i + 1)) : Int)))), (8, .int (zI ((wo_cnt (wo_can (gH (lg L))) (hk_l (gS (lg L)) (gR (lg L)) (i + 1)) : Int)))), (0, .ref (a 0)), (1, .int (zI (lg L 0))), (2, .int (zI (lg L 5))), (3, .int (zI (ox_w (lg L)))), (4, .int (zI (wo_best (gS (lg L)) (gW (lg L)) (gR (lg L)) (gH (lg L))))), (5, .int (zI ((sp_lv (gH (lg L)) : Int)))), (6, .int (zI (lg L 0 - (sp_lc (gH (lg L)) : Int)))), (7, .int (zI (((gH (lg L)) : Int))))]) rfl ?_
                              obtain ⟨k9, rfl⟩ : ∃ k9, n9 = k9 + 1 := ⟨n9 - 1, by omega⟩
                              refine hv_widen (ce' := 8 + 12 * (i + 1)) (sl' := 48 + 72 * (i + 1)) (by omega) (by omega) ?_
                              exact ih k9 (i + 1, u42) (by omega) ⟨by dsimp only; omega, hu42.1, haj42⟩
                          · have hcb : hk_c i = bb := by omega
                            have hE2 : lg L 4 * wo_gain (gS (lg L)) (gW (lg L)) (wo (gS (lg L)) (gW (lg L)) (gR (lg L))) (gH (lg L)) (hk_c i) = ox_w (lg L) := by rw [hcb, hb5]; rfl
                            refine hv_iload C dL_holds_284 3 rfl ?_
                            refine hv_iload_n C dL_holds_286 13 rfl ?_
                            refine hv_icmp_ne C dL_holds_287 (tgt := 310) (by decide) (zI_ne (by omega)) (fun hc287 => ?_) (fun hc287 => ?_)
                            · exact absurd hc287 (by omega)
                            · refine hv_aload_n C dL_holds_290 10 rfl ?_
                              refine hv_iload C dL_holds_291 7 rfl ?_
                              refine hv_iload C dL_holds_293 6 rfl ?_
                              refine hv_iload C dL_holds_295 5 rfl ?_
                              refine hv_iconst C dL_holds_297 (v := zI (1)) rfl ?_
                              refine hy_callS (As := [.ref (a 0), .int (zI ((i : Int) / 9)), .int (zI ((i : Int) / 9 + (i : Int) / 3 % 3)), .int (zI (1 + (i : Int) % 3)), .int (zI (1))]) (rest := []) (wc := ob_W dA a L u41) (wr := []) C X (k_T_would l D dA sa hst a L u41 hJ hu41.1 ((i : Int) / 9) (by omega) ((i : Int) / 9 + (i : Int) / 3 % 3) (by omega) (1 + (i : Int) % 3) (by omega) (1) (by decide) haj41) (vx_cwSW 5 C.1.2.2.2.2 (hw_SH tw_m_RL_136 tw_t_L_would tw_n_RL tw_k_L_would) rfl rfl rfl (by decide +kernel) ⟨Nat.le_of_ble_eq_true rfl, Nat.le_of_ble_eq_true rfl⟩) (List.Perm.of_eq (List.append_nil _).symm) rfl rfl (Nat.le_of_ble_eq_true rfl) dL_holds_298 ⟨by show 8 + 12 * i + 4 + 4 + 4 ≤ 690; omega, by show 48 + 72 * i + 24 + 24 + 24 ≤ 4200; omega⟩ (fun u43 hu43 => ?_)
                              have haj43 := ob_pj hu43 haj41
                              refine hv_weq (ws' := ob_W dA a L u43) (List.append_nil _) ?_
                              refine hv_eqst (st' := [.int (zI (an_would L ((i : Int) / 9) ((i : Int) / 9 + (i : Int) / 3 % 3) (1 + (i : Int) % 3) (1)))]) rfl ?_
                              refine hv_topi (y := zI (((sp_bh (gS (lg L)) (gW (lg L)) (gH (lg L)) (hk_c i)) : Int))) (by rw [show an_would L ((i : Int) / 9) ((i : Int) / 9 + (i : Int) / 3 % 3) (1 + (i : Int) % 3) (1) = ((sp_bh (gS (lg L)) (gW (lg L)) (gH (lg L)) (hk_c i)) : Int) from (an_wou (by omega) (by decide)).trans (xa_ifc_t (c := hk_c i) (1) (by omega) hec hcan)]) ?_
                              refine hv_iload C dL_holds_301 17 rfl ?_
                              refine hv_icmp_ge C dL_holds_303 (tgt := 310) (by decide) (zI_le (by omega)) (fun hc303 => ?_) (fun hc303 => ?_)
                              · exact absurd hc303 (by omega)
                              · refine hv_iconst C dL_holds_306 (v := zI (1)) rfl ?_
                                refine hv_goto C dL_holds_307 (tgt := 311) (by decide) ?_
                                refine hv_istore C dL_holds_311 (lw := [(10, .int (zI (1))), (9, .int (zI ((wo_cnt (wo_isb (gS (lg L)) (gW (lg L)) (gR (lg L)) (gH (lg L))) (hk_l (gS (lg L)) (gR (lg L)) i) : Int)))), (8, .int (zI ((wo_cnt (wo_can (gH (lg L))) (hk_l (gS (lg L)) (gR (lg L)) i) : Int) + 1))), (17, .int (zI ((hk_c i : Int)))), (16, .int (zI (lg L 4 * wo_gain (gS (lg L)) (gW (lg L)) (wo (gS (lg L)) (gW (lg L)) (gR (lg L))) (gH (lg L)) (hk_c i)))), (15, .int (zI (lg L 4 * ((sp_lc (gH (lg L)) : Int) - (sp_lc (sp_bh (gS (lg L)) (gW (lg L)) (gH (lg L)) (hk_c i)) : Int))))), (14, .int (zI (1 + (i : Int) % 3))), (13, .int (zI ((i : Int) / 9 + (i : Int) / 3 % 3))), (12, .int (zI ((i : Int) / 9))), (11, .int (zI ((i : Int)))), (0, .ref (a 0)), (1, .int (zI (lg L 0))), (2, .int (zI (lg L 5))), (3, .int (zI (ox_w (lg L)))), (4, .int (zI (wo_best (gS (lg L)) (gW (lg L)) (gR (lg L)) (gH (lg L))))), (5, .int (zI ((sp_lv (gH (lg L)) : Int)))), (6, .int (zI (lg L 0 - (sp_lc (gH (lg L)) : Int)))), (7, .int (zI (((gH (lg L)) : Int))))]) (by decide) rfl ?_
                                have hct : wo_can (gH (lg L)) (hk_c i) = true := by unfold wo_can; rw [decide_eq_false hcan]; rfl
                                have hns : ¬ wo_gain (gS (lg L)) (gW (lg L)) (wo (gS (lg L)) (gW (lg L)) (gR (lg L))) (gH (lg L)) (hk_c i) = wo (gS (lg L)) (gW (lg L)) (gR (lg L)) (gH (lg L)) := fun q => hNE (by rw [q]; rfl)
                                have h8 : (wo_cnt (wo_can (gH (lg L))) (hk_l (gS (lg L)) (gR (lg L)) (i + 1)) : Int) = (wo_cnt (wo_can (gH (lg L))) (hk_l (gS (lg L)) (gR (lg L)) i) : Int) + 1 := by rw [hk_cnt, if_pos ⟨ha, hct⟩]; omega
                                have h9 : (wo_cnt (wo_isb (gS (lg L)) (gW (lg L)) (gR (lg L)) (gH (lg L))) (hk_l (gS (lg L)) (gR (lg L)) (i + 1)) : Int) = (wo_cnt (wo_isb (gS (lg L)) (gW (lg L)) (gR (lg L)) (gH (lg L))) (hk_l (gS (lg L)) (gR (lg L)) i) : Int) := by rw [hk_cnt, if_neg (fun q => hns (of_decide_eq_true q.2)), Nat.add_zero]
                                refine hv_lveq (lv' := [(10, .int (zI (1))), (9, .int (zI ((wo_cnt (wo_isb (gS (lg L)) (gW (lg L)) (gR (lg L)) (gH (lg L))) (hk_l (gS (lg L)) (gR (lg L)) (i + 1)) : Int)))), (8, .int (zI ((wo_cnt (wo_can (gH (lg L))) (hk_l (gS (lg L)) (gR (lg L)) (i + 1)) : Int)))), (17, .int (zI ((hk_c i : Int)))), (16, .int (zI (lg L 4 * wo_gain (gS (lg L)) (gW (lg L)) (wo (gS (lg L)) (gW (lg L)) (gR (lg L))) (gH (lg L)) (hk_c i)))), (15, .int (zI (lg L 4 * ((sp_lc (gH (lg L)) : Int) - (sp_lc (sp_bh (gS (lg L)) (gW (lg L)) (gH (lg L)) (hk_c i)) : Int))))), (14, .int (zI (1 + (i : Int) % 3))), (13, .int (zI ((i : Int) / 9 + (i : Int) / 3 % 3))), (12, .int (zI ((i : Int) / 9))), (11, .int (zI ((i : Int)))), (0, .ref (a 0)), (1, .int (zI (lg L 0))), (2, .int (zI (lg L 5))), (3, .int (zI (ox_w (lg L)))), (4, .int (zI (wo_best (gS (lg L)) (gW (lg L)) (gR (lg L)) (gH (lg L))))), (5, .int (zI ((sp_lv (gH (lg L)) : Int)))), (6, .int (zI (lg L 0 - (sp_lc (gH (lg L)) : Int)))), (7, .int (zI (((gH (lg L)) : Int))))]) (by rw [h8, h9]) ?_
                                refine hv_iinc C dL_holds_313 9 rfl (v := zI (((i + 1 : Nat) : Int))) ((zI_add _ _).trans (zI_c (by omega))) (by decide) (lw := [(11, .int (zI (((i + 1 : Nat) : Int)))), (10, .int (zI (1))), (9, .int (zI ((wo_cnt (wo_isb (gS (lg L)) (gW (lg L)) (gR (lg L)) (gH (lg L))) (hk_l (gS (lg L)) (gR (lg L)) (i + 1)) : Int)))), (8, .int (zI ((wo_cnt (wo_can (gH (lg L))) (hk_l (gS (lg L)) (gR (lg L)) (i + 1)) : Int)))), (17, .int (zI ((hk_c i : Int)))), (16, .int (zI (lg L 4 * wo_gain (gS (lg L)) (gW (lg L)) (wo (gS (lg L)) (gW (lg L)) (gR (lg L))) (gH (lg L)) (hk_c i)))), (15, .int (zI (lg L 4 * ((sp_lc (gH (lg L)) : Int) - (sp_lc (sp_bh (gS (lg L)) (gW (lg L)) (gH (lg L)) (hk_c i)) : Int))))), (14, .int (zI (1 + (i : Int) % 3))), (13, .int (zI ((i : Int) / 9 + (i : Int) / 3 % 3))), (12, .int (zI ((i : Int) / 9))), (0, .ref (a 0)), (1, .int (zI (lg L 0))), (2, .int (zI (lg L 5))), (3, .int (zI (ox_w (lg L)))), (4, .int (zI (wo_best (gS (lg L)) (gW (lg L)) (gR (lg L)) (gH (lg L))))), (5, .int (zI ((sp_lv (gH (lg L)) : Int)))), (6, .int (zI (lg L 0 - (sp_lc (gH (lg L)) : Int)))), (7, .int (zI (((gH (lg L)) : Int))))]) rfl ?_
                                refine hv_goto C dL_holds_316 (tgt := 126) (by decide) ?_
                                refine hv_lsub [0, 1, 2, 3, 10, 11, 12, 13, 14, 15, 16, 17] (lv' := [(11, .int (zI (((i + 1 : Nat) : Int)))), (10, .int (zI (1))), (9, .int (zI ((wo_cnt (wo_isb (gS (lg L)) (gW (lg L)) (gR (lg L)) (gH (lg L))) (hk_l (gS (lg L)) (gR (lg L)) (i + 1)) : Int)))), (8, .int (zI ((wo_cnt (wo_can (gH (lg L))) (hk_l (gS (lg L)) (gR (lg L)) (i + 1)) : Int)))), (0, .ref (a 0)), (1, .int (zI (lg L 0))), (2, .int (zI (lg L 5))), (3, .int (zI (ox_w (lg L)))), (4, .int (zI (wo_best (gS (lg L)) (gW (lg L)) (gR (lg L)) (gH (lg L))))), (5, .int (zI ((sp_lv (gH (lg L)) : Int)))), (6, .int (zI (lg L 0 - (sp_lc (gH (lg L)) : Int)))), (7, .int (zI (((gH (lg L)) : Int))))]) rfl ?_
                                obtain ⟨k9, rfl⟩ : ∃ k9, n9 = k9 + 1 := ⟨n9 - 1, by omega⟩
                                refine hv_widen (ce' := 8 + 12 * (i + 1)) (sl' := 48 + 72 * (i + 1)) (by omega) (by omega) ?_
                                exact ih k9 (i + 1, u43) (by omega) ⟨by dsimp only; omega, hu43.1, haj43⟩
                        · exact absurd hc267 (by omega)
                    · have hE : lg L 4 * wo_gain (gS (lg L)) (gW (lg L)) (wo (gS (lg L)) (gW (lg L)) (gR (lg L))) (gH (lg L)) (hk_c i) = ox_w (lg L) := by omega
                      have hq := hb6 _ hmem (fv_eq hg4 (hE.trans hwd))
                      refine hv_iconst C dL_holds_250 (v := zI (1)) rfl ?_
                      refine hv_goto C dL_holds_251 (tgt := 255) (by decide) ?_
                      refine hv_iadd C dL_holds_255 (z := zI ((wo_cnt (wo_isb (gS (lg L)) (gW (lg L)) (gR (lg L)) (gH (lg L))) (hk_l (gS (lg L)) (gR (lg L)) i) : Int) + 1)) ((zI_add _ _).trans (zI_c (by omega))) ?_
                      refine hv_istore C dL_holds_256 (lw := [(9, .int (zI ((wo_cnt (wo_isb (gS (lg L)) (gW (lg L)) (gR (lg L)) (gH (lg L))) (hk_l (gS (lg L)) (gR (lg L)) i) : Int) + 1))), (8, .int (zI ((wo_cnt (wo_can (gH (lg L))) (hk_l (gS (lg L)) (gR (lg L)) i) : Int) + 1))), (17, .int (zI ((hk_c i : Int)))), (16, .int (zI (lg L 4 * wo_gain (gS (lg L)) (gW (lg L)) (wo (gS (lg L)) (gW (lg L)) (gR (lg L))) (gH (lg L)) (hk_c i)))), (15, .int (zI (lg L 4 * ((sp_lc (gH (lg L)) : Int) - (sp_lc (sp_bh (gS (lg L)) (gW (lg L)) (gH (lg L)) (hk_c i)) : Int))))), (14, .int (zI (1 + (i : Int) % 3))), (13, .int (zI ((i : Int) / 9 + (i : Int) / 3 % 3))), (12, .int (zI ((i : Int) / 9))), (11, .int (zI ((i : Int)))), (10, .int (zI (1))), (0, .ref (a 0)), (1, .int (zI (lg L 0))), (2, .int (zI (lg L 5))), (3, .int (zI (ox_w (lg L)))), (4, .int (zI (wo_best (gS (lg L)) (gW (lg L)) (gR (lg L)) (gH (lg L))))), (5, .int (zI ((sp_lv (gH (lg L)) : Int)))), (6, .int (zI (lg L 0 - (sp_lc (gH (lg L)) : Int)))), (7, .int (zI (((gH (lg L)) : Int))))]) (by decide) rfl ?_
                      refine hv_iload C dL_holds_258 3 rfl ?_
                      refine hv_iload_n C dL_holds_260 13 rfl ?_
                      refine hv_icmp_gt C dL_holds_261 (tgt := 310) (by decide) (zI_lt (by omega)) (fun hc261 => ?_) (fun hc261 => ?_)
                      · exact absurd hc261 (by omega)
                      · refine hv_iload C dL_holds_264 3 rfl ?_
                        refine hv_iload_n C dL_holds_266 13 rfl ?_
                        refine hv_icmp_lt C dL_holds_267 (tgt := 277) (by decide) (zI_lt (by omega)) (fun hc267 => ?_) (fun hc267 => ?_)
                        · exact absurd hc267 (by omega)
                        · refine hv_iload C dL_holds_270 2 rfl ?_
                          refine hv_iload C dL_holds_272 14 rfl ?_
                          refine hv_icmp_lt C dL_holds_274 (tgt := 310) (by decide) (zI_lt (by omega)) (fun hc274 => ?_) (fun hc274 => ?_)
                          · exact absurd hc274 (by omega)
                          · refine hv_iload C dL_holds_277 2 rfl ?_
                            refine hv_iload C dL_holds_279 14 rfl ?_
                            refine hv_icmp_ne C dL_holds_281 (tgt := 290) (by decide) (zI_ne (by omega)) (fun hc281 => ?_) (fun hc281 => ?_)
                            · refine hv_aload_n C dL_holds_290 10 rfl ?_
                              refine hv_iload C dL_holds_291 7 rfl ?_
                              refine hv_iload C dL_holds_293 6 rfl ?_
                              refine hv_iload C dL_holds_295 5 rfl ?_
                              refine hv_iconst C dL_holds_297 (v := zI (1)) rfl ?_
                              refine hy_callS (As := [.ref (a 0), .int (zI ((i : Int) / 9)), .int (zI ((i : Int) / 9 + (i : Int) / 3 % 3)), .int (zI (1 + (i : Int) % 3)), .int (zI (1))]) (rest := []) (wc := ob_W dA a L u41) (wr := []) C X (k_T_would l D dA sa hst a L u41 hJ hu41.1 ((i : Int) / 9) (by omega) ((i : Int) / 9 + (i : Int) / 3 % 3) (by omega) (1 + (i : Int) % 3) (by omega) (1) (by decide) haj41) (vx_cwSW 5 C.1.2.2.2.2 (hw_SH tw_m_RL_136 tw_t_L_would tw_n_RL tw_k_L_would) rfl rfl rfl (by decide +kernel) ⟨Nat.le_of_ble_eq_true rfl, Nat.le_of_ble_eq_true rfl⟩) (List.Perm.of_eq (List.append_nil _).symm) rfl rfl (Nat.le_of_ble_eq_true rfl) dL_holds_298 ⟨by show 8 + 12 * i + 4 + 4 + 4 ≤ 690; omega, by show 48 + 72 * i + 24 + 24 + 24 ≤ 4200; omega⟩ (fun u44 hu44 => ?_)
                              have haj44 := ob_pj hu44 haj41
                              refine hv_weq (ws' := ob_W dA a L u44) (List.append_nil _) ?_
                              refine hv_eqst (st' := [.int (zI (an_would L ((i : Int) / 9) ((i : Int) / 9 + (i : Int) / 3 % 3) (1 + (i : Int) % 3) (1)))]) rfl ?_
                              refine hv_topi (y := zI (((sp_bh (gS (lg L)) (gW (lg L)) (gH (lg L)) (hk_c i)) : Int))) (by rw [show an_would L ((i : Int) / 9) ((i : Int) / 9 + (i : Int) / 3 % 3) (1 + (i : Int) % 3) (1) = ((sp_bh (gS (lg L)) (gW (lg L)) (gH (lg L)) (hk_c i)) : Int) from (an_wou (by omega) (by decide)).trans (xa_ifc_t (c := hk_c i) (1) (by omega) hec hcan)]) ?_
                              refine hv_iload C dL_holds_301 17 rfl ?_
                              refine hv_icmp_ge C dL_holds_303 (tgt := 310) (by decide) (zI_le (by omega)) (fun hc303 => ?_) (fun hc303 => ?_)
                              · exact absurd hc303 (by omega)
                              · refine hv_iconst C dL_holds_306 (v := zI (1)) rfl ?_
                                refine hv_goto C dL_holds_307 (tgt := 311) (by decide) ?_
                                refine hv_istore C dL_holds_311 (lw := [(10, .int (zI (1))), (9, .int (zI ((wo_cnt (wo_isb (gS (lg L)) (gW (lg L)) (gR (lg L)) (gH (lg L))) (hk_l (gS (lg L)) (gR (lg L)) i) : Int) + 1))), (8, .int (zI ((wo_cnt (wo_can (gH (lg L))) (hk_l (gS (lg L)) (gR (lg L)) i) : Int) + 1))), (17, .int (zI ((hk_c i : Int)))), (16, .int (zI (lg L 4 * wo_gain (gS (lg L)) (gW (lg L)) (wo (gS (lg L)) (gW (lg L)) (gR (lg L))) (gH (lg L)) (hk_c i)))), (15, .int (zI (lg L 4 * ((sp_lc (gH (lg L)) : Int) - (sp_lc (sp_bh (gS (lg L)) (gW (lg L)) (gH (lg L)) (hk_c i)) : Int))))), (14, .int (zI (1 + (i : Int) % 3))), (13, .int (zI ((i : Int) / 9 + (i : Int) / 3 % 3))), (12, .int (zI ((i : Int) / 9))), (11, .int (zI ((i : Int)))), (0, .ref (a 0)), (1, .int (zI (lg L 0))), (2, .int (zI (lg L 5))), (3, .int (zI (ox_w (lg L)))), (4, .int (zI (wo_best (gS (lg L)) (gW (lg L)) (gR (lg L)) (gH (lg L))))), (5, .int (zI ((sp_lv (gH (lg L)) : Int)))), (6, .int (zI (lg L 0 - (sp_lc (gH (lg L)) : Int)))), (7, .int (zI (((gH (lg L)) : Int))))]) (by decide) rfl ?_
                                have hct : wo_can (gH (lg L)) (hk_c i) = true := by unfold wo_can; rw [decide_eq_false hcan]; rfl
                                have hst9 : wo_isb (gS (lg L)) (gW (lg L)) (gR (lg L)) (gH (lg L)) (hk_c i) = true := decide_eq_true (fv_eq hg4 (hE.trans hwd))
                                have h8 : (wo_cnt (wo_can (gH (lg L))) (hk_l (gS (lg L)) (gR (lg L)) (i + 1)) : Int) = (wo_cnt (wo_can (gH (lg L))) (hk_l (gS (lg L)) (gR (lg L)) i) : Int) + 1 := by rw [hk_cnt, if_pos ⟨ha, hct⟩]; omega
                                have h9 : (wo_cnt (wo_isb (gS (lg L)) (gW (lg L)) (gR (lg L)) (gH (lg L))) (hk_l (gS (lg L)) (gR (lg L)) (i + 1)) : Int) = (wo_cnt (wo_isb (gS (lg L)) (gW (lg L)) (gR (lg L)) (gH (lg L))) (hk_l (gS (lg L)) (gR (lg L)) i) : Int) + 1 := by rw [hk_cnt, if_pos ⟨ha, hst9⟩]; omega
                                refine hv_lveq (lv' := [(10, .int (zI (1))), (9, .int (zI ((wo_cnt (wo_isb (gS (lg L)) (gW (lg L)) (gR (lg L)) (gH (lg L))) (hk_l (gS (lg L)) (gR (lg L)) (i + 1)) : Int)))), (8, .int (zI ((wo_cnt (wo_can (gH (lg L))) (hk_l (gS (lg L)) (gR (lg L)) (i + 1)) : Int)))), (17, .int (zI ((hk_c i : Int)))), (16, .int (zI (lg L 4 * wo_gain (gS (lg L)) (gW (lg L)) (wo (gS (lg L)) (gW (lg L)) (gR (lg L))) (gH (lg L)) (hk_c i)))), (15, .int (zI (lg L 4 * ((sp_lc (gH (lg L)) : Int) - (sp_lc (sp_bh (gS (lg L)) (gW (lg L)) (gH (lg L)) (hk_c i)) : Int))))), (14, .int (zI (1 + (i : Int) % 3))), (13, .int (zI ((i : Int) / 9 + (i : Int) / 3 % 3))), (12, .int (zI ((i : Int) / 9))), (11, .int (zI ((i : Int)))), (0, .ref (a 0)), (1, .int (zI (lg L 0))), (2, .int (zI (lg L 5))), (3, .int (zI (ox_w (lg L)))), (4, .int (zI (wo_best (gS (lg L)) (gW (lg L)) (gR (lg L)) (gH (lg L))))), (5, .int (zI ((sp_lv (gH (lg L)) : Int)))), (6, .int (zI (lg L 0 - (sp_lc (gH (lg L)) : Int)))), (7, .int (zI (((gH (lg L)) : Int))))]) (by rw [h8, h9]) ?_
                                refine hv_iinc C dL_holds_313 9 rfl (v := zI (((i + 1 : Nat) : Int))) ((zI_add _ _).trans (zI_c (by omega))) (by decide) (lw := [(11, .int (zI (((i + 1 : Nat) : Int)))), (10, .int (zI (1))), (9, .int (zI ((wo_cnt (wo_isb (gS (lg L)) (gW (lg L)) (gR (lg L)) (gH (lg L))) (hk_l (gS (lg L)) (gR (lg L)) (i + 1)) : Int)))), (8, .int (zI ((wo_cnt (wo_can (gH (lg L))) (hk_l (gS (lg L)) (gR (lg L)) (i + 1)) : Int)))), (17, .int (zI ((hk_c i : Int)))), (16, .int (zI (lg L 4 * wo_gain (gS (lg L)) (gW (lg L)) (wo (gS (lg L)) (gW (lg L)) (gR (lg L))) (gH (lg L)) (hk_c i)))), (15, .int (zI (lg L 4 * ((sp_lc (gH (lg L)) : Int) - (sp_lc (sp_bh (gS (lg L)) (gW (lg L)) (gH (lg L)) (hk_c i)) : Int))))), (14, .int (zI (1 + (i : Int) % 3))), (13, .int (zI ((i : Int) / 9 + (i : Int) / 3 % 3))), (12, .int (zI ((i : Int) / 9))), (0, .ref (a 0)), (1, .int (zI (lg L 0))), (2, .int (zI (lg L 5))), (3, .int (zI (ox_w (lg L)))), (4, .int (zI (wo_best (gS (lg L)) (gW (lg L)) (gR (lg L)) (gH (lg L))))), (5, .int (zI ((sp_lv (gH (lg L)) : Int)))), (6, .int (zI (lg L 0 - (sp_lc (gH (lg L)) : Int)))), (7, .int (zI (((gH (lg L)) : Int))))]) rfl ?_
                                refine hv_goto C dL_holds_316 (tgt := 126) (by decide) ?_
                                refine hv_lsub [0, 1, 2, 3, 10, 11, 12, 13, 14, 15, 16, 17] (lv' := [(11, .int (zI (((i + 1 : Nat) : Int)))), (10, .int (zI (1))), (9, .int (zI ((wo_cnt (wo_isb (gS (lg L)) (gW (lg L)) (gR (lg L)) (gH (lg L))) (hk_l (gS (lg L)) (gR (lg L)) (i + 1)) : Int)))), (8, .int (zI ((wo_cnt (wo_can (gH (lg L))) (hk_l (gS (lg L)) (gR (lg L)) (i + 1)) : Int)))), (0, .ref (a 0)), (1, .int (zI (lg L 0))), (2, .int (zI (lg L 5))), (3, .int (zI (ox_w (lg L)))), (4, .int (zI (wo_best (gS (lg L)) (gW (lg L)) (gR (lg L)) (gH (lg L))))), (5, .int (zI ((sp_lv (gH (lg L)) : Int)))), (6, .int (zI (lg L 0 - (sp_lc (gH (lg L)) : Int)))), (7, .int (zI (((gH (lg L)) : Int))))]) rfl ?_
                                obtain ⟨k9, rfl⟩ : ∃ k9, n9 = k9 + 1 := ⟨n9 - 1, by omega⟩
                                refine hv_widen (ce' := 8 + 12 * (i + 1)) (sl' := 48 + 72 * (i + 1)) (by omega) (by omega) ?_
                                exact ih k9 (i + 1, u44) (by omega) ⟨by dsimp only; omega, hu44.1, haj44⟩
                            · have hcb : hk_c i = bb := by omega
                              have hE2 : lg L 4 * wo_gain (gS (lg L)) (gW (lg L)) (wo (gS (lg L)) (gW (lg L)) (gR (lg L))) (gH (lg L)) (hk_c i) = ox_w (lg L) := by rw [hcb, hb5]; rfl
                              refine hv_iload C dL_holds_284 3 rfl ?_
                              refine hv_iload_n C dL_holds_286 13 rfl ?_
                              refine hv_icmp_ne C dL_holds_287 (tgt := 310) (by decide) (zI_ne (by omega)) (fun hc287 => ?_) (fun hc287 => ?_)
                              · exact absurd hc287 (by omega)
                              · refine hv_aload_n C dL_holds_290 10 rfl ?_
                                refine hv_iload C dL_holds_291 7 rfl ?_
                                refine hv_iload C dL_holds_293 6 rfl ?_
                                refine hv_iload C dL_holds_295 5 rfl ?_
                                refine hv_iconst C dL_holds_297 (v := zI (1)) rfl ?_
                                refine hy_callS (As := [.ref (a 0), .int (zI ((i : Int) / 9)), .int (zI ((i : Int) / 9 + (i : Int) / 3 % 3)), .int (zI (1 + (i : Int) % 3)), .int (zI (1))]) (rest := []) (wc := ob_W dA a L u41) (wr := []) C X (k_T_would l D dA sa hst a L u41 hJ hu41.1 ((i : Int) / 9) (by omega) ((i : Int) / 9 + (i : Int) / 3 % 3) (by omega) (1 + (i : Int) % 3) (by omega) (1) (by decide) haj41) (vx_cwSW 5 C.1.2.2.2.2 (hw_SH tw_m_RL_136 tw_t_L_would tw_n_RL tw_k_L_would) rfl rfl rfl (by decide +kernel) ⟨Nat.le_of_ble_eq_true rfl, Nat.le_of_ble_eq_true rfl⟩) (List.Perm.of_eq (List.append_nil _).symm) rfl rfl (Nat.le_of_ble_eq_true rfl) dL_holds_298 ⟨by show 8 + 12 * i + 4 + 4 + 4 ≤ 690; omega, by show 48 + 72 * i + 24 + 24 + 24 ≤ 4200; omega⟩ (fun u45 hu45 => ?_)
                                have haj45 := ob_pj hu45 haj41
                                refine hv_weq (ws' := ob_W dA a L u45) (List.append_nil _) ?_
                                refine hv_eqst (st' := [.int (zI (an_would L ((i : Int) / 9) ((i : Int) / 9 + (i : Int) / 3 % 3) (1 + (i : Int) % 3) (1)))]) rfl ?_
                                refine hv_topi (y := zI (((sp_bh (gS (lg L)) (gW (lg L)) (gH (lg L)) (hk_c i)) : Int))) (by rw [show an_would L ((i : Int) / 9) ((i : Int) / 9 + (i : Int) / 3 % 3) (1 + (i : Int) % 3) (1) = ((sp_bh (gS (lg L)) (gW (lg L)) (gH (lg L)) (hk_c i)) : Int) from (an_wou (by omega) (by decide)).trans (xa_ifc_t (c := hk_c i) (1) (by omega) hec hcan)]) ?_
                                refine hv_iload C dL_holds_301 17 rfl ?_
                                refine hv_icmp_ge C dL_holds_303 (tgt := 310) (by decide) (zI_le (by omega)) (fun hc303 => ?_) (fun hc303 => ?_)
                                · exact absurd hc303 (by omega)
                                · refine hv_iconst C dL_holds_306 (v := zI (1)) rfl ?_
                                  refine hv_goto C dL_holds_307 (tgt := 311) (by decide) ?_
                                  refine hv_istore C dL_holds_311 (lw := [(10, .int (zI (1))), (9, .int (zI ((wo_cnt (wo_isb (gS (lg L)) (gW (lg L)) (gR (lg L)) (gH (lg L))) (hk_l (gS (lg L)) (gR (lg L)) i) : Int) + 1))), (8, .int (zI ((wo_cnt (wo_can (gH (lg L))) (hk_l (gS (lg L)) (gR (lg L)) i) : Int) + 1))), (17, .int (zI ((hk_c i : Int)))), (16, .int (zI (lg L 4 * wo_gain (gS (lg L)) (gW (lg L)) (wo (gS (lg L)) (gW (lg L)) (gR (lg L))) (gH (lg L)) (hk_c i)))), (15, .int (zI (lg L 4 * ((sp_lc (gH (lg L)) : Int) - (sp_lc (sp_bh (gS (lg L)) (gW (lg L)) (gH (lg L)) (hk_c i)) : Int))))), (14, .int (zI (1 + (i : Int) % 3))), (13, .int (zI ((i : Int) / 9 + (i : Int) / 3 % 3))), (12, .int (zI ((i : Int) / 9))), (11, .int (zI ((i : Int)))), (0, .ref (a 0)), (1, .int (zI (lg L 0))), (2, .int (zI (lg L 5))), (3, .int (zI (ox_w (lg L)))), (4, .int (zI (wo_best (gS (lg L)) (gW (lg L)) (gR (lg L)) (gH (lg L))))), (5, .int (zI ((sp_lv (gH (lg L)) : Int)))), (6, .int (zI (lg L 0 - (sp_lc (gH (lg L)) : Int)))), (7, .int (zI (((gH (lg L)) : Int))))]) (by decide) rfl ?_
                                  have hct : wo_can (gH (lg L)) (hk_c i) = true := by unfold wo_can; rw [decide_eq_false hcan]; rfl
                                  have hst9 : wo_isb (gS (lg L)) (gW (lg L)) (gR (lg L)) (gH (lg L)) (hk_c i) = true := decide_eq_true (fv_eq hg4 (hE.trans hwd))
                                  have h8 : (wo_cnt (wo_can (gH (lg L))) (hk_l (gS (lg L)) (gR (lg L)) (i + 1)) : Int) = (wo_cnt (wo_can (gH (lg L))) (hk_l (gS (lg L)) (gR (lg L)) i) : Int) + 1 := by rw [hk_cnt, if_pos ⟨ha, hct⟩]; omega
                                  have h9 : (wo_cnt (wo_isb (gS (lg L)) (gW (lg L)) (gR (lg L)) (gH (lg L))) (hk_l (gS (lg L)) (gR (lg L)) (i + 1)) : Int) = (wo_cnt (wo_isb (gS (lg L)) (gW (lg L)) (gR (lg L)) (gH (lg L))) (hk_l (gS (lg L)) (gR (lg L)) i) : Int) + 1 := by rw [hk_cnt, if_pos ⟨ha, hst9⟩]; omega
                                  refine hv_lveq (lv' := [(10, .int (zI (1))), (9, .int (zI ((wo_cnt (wo_isb (gS (lg L)) (gW (lg L)) (gR (lg L)) (gH (lg L))) (hk_l (gS (lg L)) (gR (lg L)) (i + 1)) : Int)))), (8, .int (zI ((wo_cnt (wo_can (gH (lg L))) (hk_l (gS (lg L)) (gR (lg L)) (i + 1)) : Int)))), (17, .int (zI ((hk_c i : Int)))), (16, .int (zI (lg L 4 * wo_gain (gS (lg L)) (gW (lg L)) (wo (gS (lg L)) (gW (lg L)) (gR (lg L))) (gH (lg L)) (hk_c i)))), (15, .int (zI (lg L 4 * ((sp_lc (gH (lg L)) : Int) - (sp_lc (sp_bh (gS (lg L)) (gW (lg L)) (gH (lg L)) (hk_c i)) : Int))))), (14, .int (zI (1 + (i : Int) % 3))), (13, .int (zI ((i : Int) / 9 + (i : Int) / 3 % 3))), (12, .int (zI ((i : Int) / 9))), (11, .int (zI ((i : Int)))), (0, .ref (a 0)), (1, .int (zI (lg L 0))), (2, .int (zI (lg L 5))), (3, .int (zI (ox_w (lg L)))), (4, .int (zI (wo_best (gS (lg L)) (gW (lg L)) (gR (lg L)) (gH (lg L))))), (5, .int (zI ((sp_lv (gH (lg L)) : Int)))), (6, .int (zI (lg L 0 - (sp_lc (gH (lg L)) : Int)))), (7, .int (zI (((gH (lg L)) : Int))))]) (by rw [h8, h9]) ?_
                                  refine hv_iinc C dL_holds_313 9 rfl (v := zI (((i + 1 : Nat) : Int))) ((zI_add _ _).trans (zI_c (by omega))) (by decide) (lw := [(11, .int (zI (((i + 1 : Nat) : Int)))), (10, .int (zI (1))), (9, .int (zI ((wo_cnt (wo_isb (gS (lg L)) (gW (lg L)) (gR (lg L)) (gH (lg L))) (hk_l (gS (lg L)) (gR (lg L)) (i + 1)) : Int)))), (8, .int (zI ((wo_cnt (wo_can (gH (lg L))) (hk_l (gS (lg L)) (gR (lg L)) (i + 1)) : Int)))), (17, .int (zI ((hk_c i : Int)))), (16, .int (zI (lg L 4 * wo_gain (gS (lg L)) (gW (lg L)) (wo (gS (lg L)) (gW (lg L)) (gR (lg L))) (gH (lg L)) (hk_c i)))), (15, .int (zI (lg L 4 * ((sp_lc (gH (lg L)) : Int) - (sp_lc (sp_bh (gS (lg L)) (gW (lg L)) (gH (lg L)) (hk_c i)) : Int))))), (14, .int (zI (1 + (i : Int) % 3))), (13, .int (zI ((i : Int) / 9 + (i : Int) / 3 % 3))), (12, .int (zI ((i : Int) / 9))), (0, .ref (a 0)), (1, .int (zI (lg L 0))), (2, .int (zI (lg L 5))), (3, .int (zI (ox_w (lg L)))), (4, .int (zI (wo_best (gS (lg L)) (gW (lg L)) (gR (lg L)) (gH (lg L))))), (5, .int (zI ((sp_lv (gH (lg L)) : Int)))), (6, .int (zI (lg L 0 - (sp_lc (gH (lg L)) : Int)))), (7, .int (zI (((gH (lg L)) : Int))))]) rfl ?_
                                  refine hv_goto C dL_holds_316 (tgt := 126) (by decide) ?_
                                  refine hv_lsub [0, 1, 2, 3, 10, 11, 12, 13, 14, 15, 16, 17] (lv' := [(11, .int (zI (((i + 1 : Nat) : Int)))), (10, .int (zI (1))), (9, .int (zI ((wo_cnt (wo_isb (gS (lg L)) (gW (lg L)) (gR (lg L)) (gH (lg L))) (hk_l (gS (lg L)) (gR (lg L)) (i + 1)) : Int)))), (8, .int (zI ((wo_cnt (wo_can (gH (lg L))) (hk_l (gS (lg L)) (gR (lg L)) (i + 1)) : Int)))), (0, .ref (a 0)), (1, .int (zI (lg L 0))), (2, .int (zI (lg L 5))), (3, .int (zI (ox_w (lg L)))), (4, .int (zI (wo_best (gS (lg L)) (gW (lg L)) (gR (lg L)) (gH (lg L))))), (5, .int (zI ((sp_lv (gH (lg L)) : Int)))), (6, .int (zI (lg L 0 - (sp_lc (gH (lg L)) : Int)))), (7, .int (zI (((gH (lg L)) : Int))))]) rfl ?_
                                  obtain ⟨k9, rfl⟩ : ∃ k9, n9 = k9 + 1 := ⟨n9 - 1, by omega⟩
                                  refine hv_widen (ce' := 8 + 12 * (i + 1)) (sl' := 48 + 72 * (i + 1)) (by omega) (by omega) ?_
                                  exact ih k9 (i + 1, u45) (by omega) ⟨by dsimp only; omega, hu45.1, haj45⟩
              · have hna : ¬ hk_a (gS (lg L)) (gR (lg L)) i = true := hk_a_f (fun q => by omega)
                refine hv_iconst C dL_holds_181 (v := zI (-1)) rfl ?_
                refine hv_goto C dL_holds_182 (tgt := 196) (by decide) ?_
                refine hv_istore C dL_holds_196 (lw := [(15, .int (zI (-1))), (14, .int (zI (1 + (i : Int) % 3))), (13, .int (zI ((i : Int) / 9 + (i : Int) / 3 % 3))), (12, .int (zI ((i : Int) / 9))), (11, .int (zI ((i : Int)))), (10, .int (zI (1))), (9, .int (zI ((wo_cnt (wo_isb (gS (lg L)) (gW (lg L)) (gR (lg L)) (gH (lg L))) (hk_l (gS (lg L)) (gR (lg L)) i) : Int)))), (8, .int (zI ((wo_cnt (wo_can (gH (lg L))) (hk_l (gS (lg L)) (gR (lg L)) i) : Int)))), (0, .ref (a 0)), (1, .int (zI (lg L 0))), (2, .int (zI (lg L 5))), (3, .int (zI (ox_w (lg L)))), (4, .int (zI (wo_best (gS (lg L)) (gW (lg L)) (gR (lg L)) (gH (lg L))))), (5, .int (zI ((sp_lv (gH (lg L)) : Int)))), (6, .int (zI (lg L 0 - (sp_lc (gH (lg L)) : Int)))), (7, .int (zI (((gH (lg L)) : Int))))]) (by decide) rfl ?_
                refine hv_iload C dL_holds_198 0 rfl ?_
                refine hv_iconst C dL_holds_200 (v := zI (-1)) rfl ?_
                refine hv_icmp_eq C dL_holds_201 (tgt := 313) (by decide) (zI_eq (by omega)) (fun hc201 => ?_) (fun hc201 => ?_)
                · have h8 : (wo_cnt (wo_can (gH (lg L))) (hk_l (gS (lg L)) (gR (lg L)) (i + 1)) : Int) = (wo_cnt (wo_can (gH (lg L))) (hk_l (gS (lg L)) (gR (lg L)) i) : Int) := by rw [hk_cnt, if_neg (fun q => hna q.1), Nat.add_zero]
                  have h9 : (wo_cnt (wo_isb (gS (lg L)) (gW (lg L)) (gR (lg L)) (gH (lg L))) (hk_l (gS (lg L)) (gR (lg L)) (i + 1)) : Int) = (wo_cnt (wo_isb (gS (lg L)) (gW (lg L)) (gR (lg L)) (gH (lg L))) (hk_l (gS (lg L)) (gR (lg L)) i) : Int) := by rw [hk_cnt, if_neg (fun q => hna q.1), Nat.add_zero]
                  refine hv_lveq (lv' := [(15, .int (zI (-1))), (14, .int (zI (1 + (i : Int) % 3))), (13, .int (zI ((i : Int) / 9 + (i : Int) / 3 % 3))), (12, .int (zI ((i : Int) / 9))), (11, .int (zI ((i : Int)))), (10, .int (zI (1))), (9, .int (zI ((wo_cnt (wo_isb (gS (lg L)) (gW (lg L)) (gR (lg L)) (gH (lg L))) (hk_l (gS (lg L)) (gR (lg L)) (i + 1)) : Int)))), (8, .int (zI ((wo_cnt (wo_can (gH (lg L))) (hk_l (gS (lg L)) (gR (lg L)) (i + 1)) : Int)))), (0, .ref (a 0)), (1, .int (zI (lg L 0))), (2, .int (zI (lg L 5))), (3, .int (zI (ox_w (lg L)))), (4, .int (zI (wo_best (gS (lg L)) (gW (lg L)) (gR (lg L)) (gH (lg L))))), (5, .int (zI ((sp_lv (gH (lg L)) : Int)))), (6, .int (zI (lg L 0 - (sp_lc (gH (lg L)) : Int)))), (7, .int (zI (((gH (lg L)) : Int))))]) (by rw [h8, h9]) ?_
                  refine hv_iinc C dL_holds_313 4 rfl (v := zI (((i + 1 : Nat) : Int))) ((zI_add _ _).trans (zI_c (by omega))) (by decide) (lw := [(11, .int (zI (((i + 1 : Nat) : Int)))), (15, .int (zI (-1))), (14, .int (zI (1 + (i : Int) % 3))), (13, .int (zI ((i : Int) / 9 + (i : Int) / 3 % 3))), (12, .int (zI ((i : Int) / 9))), (10, .int (zI (1))), (9, .int (zI ((wo_cnt (wo_isb (gS (lg L)) (gW (lg L)) (gR (lg L)) (gH (lg L))) (hk_l (gS (lg L)) (gR (lg L)) (i + 1)) : Int)))), (8, .int (zI ((wo_cnt (wo_can (gH (lg L))) (hk_l (gS (lg L)) (gR (lg L)) (i + 1)) : Int)))), (0, .ref (a 0)), (1, .int (zI (lg L 0))), (2, .int (zI (lg L 5))), (3, .int (zI (ox_w (lg L)))), (4, .int (zI (wo_best (gS (lg L)) (gW (lg L)) (gR (lg L)) (gH (lg L))))), (5, .int (zI ((sp_lv (gH (lg L)) : Int)))), (6, .int (zI (lg L 0 - (sp_lc (gH (lg L)) : Int)))), (7, .int (zI (((gH (lg L)) : Int))))]) rfl ?_
                  refine hv_goto C dL_holds_316 (tgt := 126) (by decide) ?_
                  refine hv_lsub [0, 5, 6, 7, 8, 9, 10, 11, 12, 13, 14, 15] (lv' := [(11, .int (zI (((i + 1 : Nat) : Int)))), (10, .int (zI (1))), (9, .int (zI ((wo_cnt (wo_isb (gS (lg L)) (gW (lg L)) (gR (lg L)) (gH (lg L))) (hk_l (gS (lg L)) (gR (lg L)) (i + 1)) : Int)))), (8, .int (zI ((wo_cnt (wo_can (gH (lg L))) (hk_l (gS (lg L)) (gR (lg L)) (i + 1)) : Int)))), (0, .ref (a 0)), (1, .int (zI (lg L 0))), (2, .int (zI (lg L 5))), (3, .int (zI (ox_w (lg L)))), (4, .int (zI (wo_best (gS (lg L)) (gW (lg L)) (gR (lg L)) (gH (lg L))))), (5, .int (zI ((sp_lv (gH (lg L)) : Int)))), (6, .int (zI (lg L 0 - (sp_lc (gH (lg L)) : Int)))), (7, .int (zI (((gH (lg L)) : Int))))]) rfl ?_
                  obtain ⟨k9, rfl⟩ : ∃ k9, n9 = k9 + 1 := ⟨n9 - 1, by omega⟩
                  refine hv_widen (ce' := 8 + 12 * (i + 1)) (sl' := 48 + 72 * (i + 1)) (by omega) (by omega) ?_
                  exact ih k9 (i + 1, v) (by omega) ⟨by dsimp only; omega, hv1, hv2⟩
                · exact absurd hc201 (by omega)
  · have him : i < gS (lg L) := by omega
    have hd4 := sp_dg_lt (gH (lg L)) ((gS (lg L)) - 1 - i)
    refine hv_aload_n C dL_holds_51 8 rfl ?_
    refine hv_iconst C dL_holds_52 (v := zI (3)) rfl ?_
    refine hv_iload C dL_holds_53 0 rfl ?_
    refine hv_iconst C dL_holds_55 (v := zI (0)) rfl ?_
    refine hv_iconst C dL_holds_56 (v := zI (0)) rfl ?_
    refine hz_callS (As := [.ref (a 0), .int (zI (3)), .int (zI (((gS (lg L)) : Int) - 1 - (i : Int))), .int (zI (0)), .int (zI (0))]) (rest := []) (wc := ob_W dA a L v) (wr := []) C X (k_C_leaves l D dA sa hst a L v hJ hv1 (((gS (lg L)) : Int) - 1 - (i : Int)) (by omega) (0) (0)) (va_cwS 5 C.1.2.2.2.2 (hw_S tw_m_RL_132 tw_t_L_call tw_n_RL tw_k_L_call) rfl rfl rfl (by decide +kernel) ⟨Nat.le_of_ble_eq_true rfl, Nat.le_of_ble_eq_true rfl⟩) (List.Perm.of_eq (List.append_nil _).symm) rfl rfl (Nat.le_of_ble_eq_true rfl) dL_holds_57 ⟨by show 2 + i + 1 ≤ 690; omega, by show 12 + 6 * i + 6 ≤ 4200; omega⟩ (fun u46 hu46 => ?_)
    have haj46 := ob_pj hu46 hv2
    refine hv_weq (ws' := ob_W dA a L u46) (List.append_nil _) ?_
    refine hv_eqst (st' := [.int (zI (an_leaves L (((gS (lg L)) : Int) - 1 - (i : Int))))]) rfl ?_
    refine hv_topi (y := zI ((sp_dg (gH (lg L)) ((gS (lg L)) - 1 - i) : Int))) (by rw [show an_leaves L (((gS (lg L)) : Int) - 1 - (i : Int)) = (sp_dg (gH (lg L)) ((gS (lg L)) - 1 - i) : Int) from an_lea ((gS (lg L)) - 1 - i) (by omega) (by omega)]) ?_
    refine hv_istore C dL_holds_60 (lw := [(9, .int (zI ((sp_dg (gH (lg L)) ((gS (lg L)) - 1 - i) : Int)))), (8, .int (zI (((gS (lg L)) : Int) - 1 - (i : Int)))), (7, .int (zI ((hb_n (gS (lg L)) (gH (lg L)) i : Int)))), (6, .int (zI ((hb_b (gS (lg L)) (gH (lg L)) i : Int)))), (5, .int (zI ((hb_l (gS (lg L)) (gH (lg L)) i : Int)))), (4, .int (zI (wo_best (gS (lg L)) (gW (lg L)) (gR (lg L)) (gH (lg L))))), (3, .int (zI (ox_w (lg L)))), (2, .int (zI (lg L 5))), (1, .int (zI (lg L 0))), (0, .ref (a 0))]) (by decide) rfl ?_
    refine hv_iload C dL_holds_62 4 rfl ?_
    refine hv_iload C dL_holds_64 0 rfl ?_
    refine hv_iadd C dL_holds_66 (z := zI ((hb_l (gS (lg L)) (gH (lg L)) (i + 1) : Int))) ((zI_add _ _).trans (zI_c (by rw [hb_l]; omega))) ?_
    refine hv_istore C dL_holds_67 (lw := [(5, .int (zI ((hb_l (gS (lg L)) (gH (lg L)) (i + 1) : Int)))), (9, .int (zI ((sp_dg (gH (lg L)) ((gS (lg L)) - 1 - i) : Int)))), (8, .int (zI (((gS (lg L)) : Int) - 1 - (i : Int)))), (7, .int (zI ((hb_n (gS (lg L)) (gH (lg L)) i : Int)))), (6, .int (zI ((hb_b (gS (lg L)) (gH (lg L)) i : Int)))), (4, .int (zI (wo_best (gS (lg L)) (gW (lg L)) (gR (lg L)) (gH (lg L))))), (3, .int (zI (ox_w (lg L)))), (2, .int (zI (lg L 5))), (1, .int (zI (lg L 0))), (0, .ref (a 0))]) (by decide) rfl ?_
    refine hv_iload C dL_holds_69 4 rfl ?_
    refine hv_iload C dL_holds_71 1 rfl ?_
    refine hv_if_ne C dL_holds_73 (tgt := 80) (by decide) (zI_ne0 (by omega)) (fun hc73 => ?_) (fun hc73 => ?_)
    · refine hv_iconst C dL_holds_80 (v := zI (0)) rfl ?_
      refine hv_iadd C dL_holds_81 (z := zI ((hb_b (gS (lg L)) (gH (lg L)) (i + 1) : Int))) ((zI_add _ _).trans (zI_c (by rw [hb_b, if_neg (by omega)]; omega))) ?_
      refine hv_istore C dL_holds_82 (lw := [(6, .int (zI ((hb_b (gS (lg L)) (gH (lg L)) (i + 1) : Int)))), (5, .int (zI ((hb_l (gS (lg L)) (gH (lg L)) (i + 1) : Int)))), (9, .int (zI ((sp_dg (gH (lg L)) ((gS (lg L)) - 1 - i) : Int)))), (8, .int (zI (((gS (lg L)) : Int) - 1 - (i : Int)))), (7, .int (zI ((hb_n (gS (lg L)) (gH (lg L)) i : Int)))), (4, .int (zI (wo_best (gS (lg L)) (gW (lg L)) (gR (lg L)) (gH (lg L))))), (3, .int (zI (ox_w (lg L)))), (2, .int (zI (lg L 5))), (1, .int (zI (lg L 0))), (0, .ref (a 0))]) (by decide) rfl ?_
      refine hv_iconst C dL_holds_84 (v := zI (4)) rfl ?_
      refine hv_iload C dL_holds_85 4 rfl ?_
      refine hv_imul C dL_holds_87 (z := zI (4 * (hb_n (gS (lg L)) (gH (lg L)) i : Int))) ((zI_mul _ _).trans (zI_c (by rfl))) ?_
      refine hv_iload C dL_holds_88 2 rfl ?_
      refine hv_iadd C dL_holds_90 (z := zI ((hb_n (gS (lg L)) (gH (lg L)) (i + 1) : Int))) ((zI_add _ _).trans (zI_c (by rw [hb_n]; omega))) ?_
      refine hv_istore C dL_holds_91 (lw := [(7, .int (zI ((hb_n (gS (lg L)) (gH (lg L)) (i + 1) : Int)))), (6, .int (zI ((hb_b (gS (lg L)) (gH (lg L)) (i + 1) : Int)))), (5, .int (zI ((hb_l (gS (lg L)) (gH (lg L)) (i + 1) : Int)))), (9, .int (zI ((sp_dg (gH (lg L)) ((gS (lg L)) - 1 - i) : Int)))), (8, .int (zI (((gS (lg L)) : Int) - 1 - (i : Int)))), (4, .int (zI (wo_best (gS (lg L)) (gW (lg L)) (gR (lg L)) (gH (lg L))))), (3, .int (zI (ox_w (lg L)))), (2, .int (zI (lg L 5))), (1, .int (zI (lg L 0))), (0, .ref (a 0))]) (by decide) rfl ?_
      refine hv_iinc C dL_holds_93 4 rfl (v := zI (((gS (lg L)) : Int) - 1 - ((i + 1 : Nat) : Int))) ((zI_add _ _).trans (zI_c (by omega))) (by decide) (lw := [(8, .int (zI (((gS (lg L)) : Int) - 1 - ((i + 1 : Nat) : Int)))), (7, .int (zI ((hb_n (gS (lg L)) (gH (lg L)) (i + 1) : Int)))), (6, .int (zI ((hb_b (gS (lg L)) (gH (lg L)) (i + 1) : Int)))), (5, .int (zI ((hb_l (gS (lg L)) (gH (lg L)) (i + 1) : Int)))), (9, .int (zI ((sp_dg (gH (lg L)) ((gS (lg L)) - 1 - i) : Int)))), (4, .int (zI (wo_best (gS (lg L)) (gW (lg L)) (gR (lg L)) (gH (lg L))))), (3, .int (zI (ox_w (lg L)))), (2, .int (zI (lg L 5))), (1, .int (zI (lg L 0))), (0, .ref (a 0))]) rfl ?_
      refine hv_goto C dL_holds_96 (tgt := 46) (by decide) ?_
      refine hv_lsub [0, 1, 2, 3, 5, 6, 7, 8, 9] (lv' := [(8, .int (zI (((gS (lg L)) : Int) - 1 - ((i + 1 : Nat) : Int)))), (7, .int (zI ((hb_n (gS (lg L)) (gH (lg L)) (i + 1) : Int)))), (6, .int (zI ((hb_b (gS (lg L)) (gH (lg L)) (i + 1) : Int)))), (5, .int (zI ((hb_l (gS (lg L)) (gH (lg L)) (i + 1) : Int)))), (4, .int (zI (wo_best (gS (lg L)) (gW (lg L)) (gR (lg L)) (gH (lg L))))), (3, .int (zI (ox_w (lg L)))), (2, .int (zI (lg L 5))), (1, .int (zI (lg L 0))), (0, .ref (a 0))]) rfl ?_
      obtain ⟨k9, rfl⟩ : ∃ k9, n9 = k9 + 1 := ⟨n9 - 1, by omega⟩
      refine hv_widen (ce' := 2 + (i + 1)) (sl' := 12 + 6 * (i + 1)) (by omega) (by omega) ?_
      exact ih k9 (i + 1, u46) (by omega) ⟨by dsimp only; omega, hu46.1, haj46⟩
    · refine hv_iconst C dL_holds_76 (v := zI (1)) rfl ?_
      refine hv_goto C dL_holds_77 (tgt := 81) (by decide) ?_
      refine hv_iadd C dL_holds_81 (z := zI ((hb_b (gS (lg L)) (gH (lg L)) (i + 1) : Int))) ((zI_add _ _).trans (zI_c (by rw [hb_b, if_pos (by omega)]; omega))) ?_
      refine hv_istore C dL_holds_82 (lw := [(6, .int (zI ((hb_b (gS (lg L)) (gH (lg L)) (i + 1) : Int)))), (5, .int (zI ((hb_l (gS (lg L)) (gH (lg L)) (i + 1) : Int)))), (9, .int (zI ((sp_dg (gH (lg L)) ((gS (lg L)) - 1 - i) : Int)))), (8, .int (zI (((gS (lg L)) : Int) - 1 - (i : Int)))), (7, .int (zI ((hb_n (gS (lg L)) (gH (lg L)) i : Int)))), (4, .int (zI (wo_best (gS (lg L)) (gW (lg L)) (gR (lg L)) (gH (lg L))))), (3, .int (zI (ox_w (lg L)))), (2, .int (zI (lg L 5))), (1, .int (zI (lg L 0))), (0, .ref (a 0))]) (by decide) rfl ?_
      refine hv_iconst C dL_holds_84 (v := zI (4)) rfl ?_
      refine hv_iload C dL_holds_85 4 rfl ?_
      refine hv_imul C dL_holds_87 (z := zI (4 * (hb_n (gS (lg L)) (gH (lg L)) i : Int))) ((zI_mul _ _).trans (zI_c (by rfl))) ?_
      refine hv_iload C dL_holds_88 2 rfl ?_
      refine hv_iadd C dL_holds_90 (z := zI ((hb_n (gS (lg L)) (gH (lg L)) (i + 1) : Int))) ((zI_add _ _).trans (zI_c (by rw [hb_n]; omega))) ?_
      refine hv_istore C dL_holds_91 (lw := [(7, .int (zI ((hb_n (gS (lg L)) (gH (lg L)) (i + 1) : Int)))), (6, .int (zI ((hb_b (gS (lg L)) (gH (lg L)) (i + 1) : Int)))), (5, .int (zI ((hb_l (gS (lg L)) (gH (lg L)) (i + 1) : Int)))), (9, .int (zI ((sp_dg (gH (lg L)) ((gS (lg L)) - 1 - i) : Int)))), (8, .int (zI (((gS (lg L)) : Int) - 1 - (i : Int)))), (4, .int (zI (wo_best (gS (lg L)) (gW (lg L)) (gR (lg L)) (gH (lg L))))), (3, .int (zI (ox_w (lg L)))), (2, .int (zI (lg L 5))), (1, .int (zI (lg L 0))), (0, .ref (a 0))]) (by decide) rfl ?_
      refine hv_iinc C dL_holds_93 4 rfl (v := zI (((gS (lg L)) : Int) - 1 - ((i + 1 : Nat) : Int))) ((zI_add _ _).trans (zI_c (by omega))) (by decide) (lw := [(8, .int (zI (((gS (lg L)) : Int) - 1 - ((i + 1 : Nat) : Int)))), (7, .int (zI ((hb_n (gS (lg L)) (gH (lg L)) (i + 1) : Int)))), (6, .int (zI ((hb_b (gS (lg L)) (gH (lg L)) (i + 1) : Int)))), (5, .int (zI ((hb_l (gS (lg L)) (gH (lg L)) (i + 1) : Int)))), (9, .int (zI ((sp_dg (gH (lg L)) ((gS (lg L)) - 1 - i) : Int)))), (4, .int (zI (wo_best (gS (lg L)) (gW (lg L)) (gR (lg L)) (gH (lg L))))), (3, .int (zI (ox_w (lg L)))), (2, .int (zI (lg L 5))), (1, .int (zI (lg L 0))), (0, .ref (a 0))]) rfl ?_
      refine hv_goto C dL_holds_96 (tgt := 46) (by decide) ?_
      refine hv_lsub [0, 1, 2, 3, 5, 6, 7, 8, 9] (lv' := [(8, .int (zI (((gS (lg L)) : Int) - 1 - ((i + 1 : Nat) : Int)))), (7, .int (zI ((hb_n (gS (lg L)) (gH (lg L)) (i + 1) : Int)))), (6, .int (zI ((hb_b (gS (lg L)) (gH (lg L)) (i + 1) : Int)))), (5, .int (zI ((hb_l (gS (lg L)) (gH (lg L)) (i + 1) : Int)))), (4, .int (zI (wo_best (gS (lg L)) (gW (lg L)) (gR (lg L)) (gH (lg L))))), (3, .int (zI (ox_w (lg L)))), (2, .int (zI (lg L 5))), (1, .int (zI (lg L 0))), (0, .ref (a 0))]) rfl ?_
      obtain ⟨k9, rfl⟩ : ∃ k9, n9 = k9 + 1 := ⟨n9 - 1, by omega⟩
      refine hv_widen (ce' := 2 + (i + 1)) (sl' := 12 + 6 * (i + 1)) (by omega) (by omega) ?_
      exact ih k9 (i + 1, u46) (by omega) ⟨by dsimp only; omega, hu46.1, haj46⟩

