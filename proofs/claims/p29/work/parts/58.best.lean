set_option maxHeartbeats 4000000 in
set_option maxRecDepth 100000 in
theorem k_L_best (l : Launch) (D : va_G) (dA : Nat → ClassId) (sa : Nat → Nat) (hst : l.stackTraces = false) (a b : Nat → Nat) (L : ob_L) (h h9 : ob_H) (hJ : ob_J L) (hk0 : ob_k h) (hk9 : ob_k h9) (haj : hal h (ox_j (lg L)) = true) (hajq : hal h9 (ox_j (lg L)) = true) (N : Int) (hN : N ≤ 1000000) (hB : ob_B N L) : hy_Ct l yL_best (hw_W yL_best cL_best 14 (some .boolean)) 47 D dA sa [.ref (a 0), .ref (b 0)] (ob_W dA a L h ++ ob_W dA b L h9) 29 166 (S := ob_L × ob_H × ob_H) (fun _ => some (.int (zI (1)))) (fun u => (ob_J u.1 ∧ ob_B N u.1 ∧ lg u.1 = lg L) ∧ (ob_k u.2.1 ∧ hal u.2.1 (ox_j (lg L)) = true) ∧ ob_k u.2.2 ∧ hal u.2.2 (ox_j (lg L)) = true) (fun u => ob_W dA a u.1 u.2.1 ++ ob_W dA b u.1 u.2.2) := by
  have hg := hJ.1
  have hg0 := hg.1
  have hg1 := hg.2.1.1
  have hg2 := hg.2.2.1
  have hg3 := hg.2.2.2.1
  have hg4 := hg.2.2.2.2.1
  have hg5 := hg.2.2.2.2.2
  have e0 := hg.e0
  have e1 := hg.e1
  have e5 := hg.e5
  have hS := hg.S
  have hR := hg.R
  have hx12 := hg.x
  have hwr0 : -54 ≤ ox_w (lg L) ∧ ox_w (lg L) ≤ 54 := ox_w_ran hg hg.H
  refine hz_of (own := RL) (cc := cL_best) (maxL := 14) (ret := (some .boolean)) rfl (by decide) rfl (Nat.le_of_ble_eq_true rfl) ?_
  intro p e s m args below meth c C X M
  refine hv_lveq (lv' := [(0, .ref (a 0)), (1, .ref (b 0))]) rfl ?_
  rcases Nat.eq_zero_or_pos (gH (lg L)) with h0 | h0
  · refine hv_aload_n C dL_best_0 0 rfl ?_
    refine hv_callV (As := []) (rest := []) (wc := ob_W dA a L h) (wr := ob_W dA b L h9) C (k_O_bestClip l D dA a L h hJ hk0 haj) (cwV 0 C.1.2.2.2.2 (hw_V tw_m_RL_152 tw_i_X8_bestClip tw_s_X8_bestClip tw_n_RX8 tw_k_X8_bestClip) rfl rfl rfl (by decide +kernel) ⟨Nat.le_of_ble_eq_true rfl, Nat.le_of_ble_eq_true rfl⟩) (List.Perm.refl _) rfl 0 6 rfl rfl rfl (Nat.le_of_ble_eq_true rfl) dL_best_1 ⟨Nat.le_of_ble_eq_true rfl, Nat.le_of_ble_eq_true rfl⟩ (fun u1 hu1 => ?_)
    have haj1 := ob_pj hu1 haj
    refine hv_eqst (st' := [.int (zI (wo_best (gS (lg L)) (gW (lg L)) (gR (lg L)) (gH (lg L))))]) rfl ?_
    refine hv_topi (y := zI (-1)) (by rw [show wo_best (gS (lg L)) (gW (lg L)) (gR (lg L)) (gH (lg L)) = -1 from (by rw [h0]; exact wo_best0 _ _ _)]) ?_
    refine hv_istore_n C dL_best_4 (lw := [(2, .int (zI (-1))), (0, .ref (a 0)), (1, .ref (b 0))]) (by decide) rfl ?_
    refine hv_iload_n C dL_best_5 0 rfl ?_
    refine hv_iconst C dL_best_6 (v := zI (-1)) rfl ?_
    refine hv_icmp_ne C dL_best_7 (tgt := 52) (by decide) (zI_ne (by omega)) (fun hc7 => ?_) (fun hc7 => ?_)
    · exact absurd hc7 (by omega)
    · refine hv_aload_n C dL_best_10 2 rfl ?_
      refine hv_callV (As := []) (rest := []) (wc := ob_W dA b L h9) (wr := ob_W dA a L u1) C (k_O_bestClip l D dA b L h9 hJ hk9 hajq) (cwV 0 C.1.2.2.2.2 (hw_V tw_m_RL_152 tw_i_X8_bestClip tw_s_X8_bestClip tw_n_RX8 tw_k_X8_bestClip) rfl rfl rfl (by decide +kernel) ⟨Nat.le_of_ble_eq_true rfl, Nat.le_of_ble_eq_true rfl⟩) List.perm_append_comm rfl 0 6 rfl rfl rfl (Nat.le_of_ble_eq_true rfl) dL_best_11 ⟨Nat.le_of_ble_eq_true rfl, Nat.le_of_ble_eq_true rfl⟩ (fun u2 hu2 => ?_)
      have haj2 := ob_pj hu2 hajq
      refine hv_perm (ws' := ob_W dA a L u1 ++ ob_W dA b L u2) List.perm_append_comm ?_
      refine hv_eqst (st' := [.int (zI (wo_best (gS (lg L)) (gW (lg L)) (gR (lg L)) (gH (lg L))))]) rfl ?_
      refine hv_topi (y := zI (-1)) (by rw [show wo_best (gS (lg L)) (gW (lg L)) (gR (lg L)) (gH (lg L)) = -1 from (by rw [h0]; exact wo_best0 _ _ _)]) ?_
      refine hv_iconst C dL_best_14 (v := zI (-1)) rfl ?_
      refine hv_icmp_ne C dL_best_15 (tgt := 50) (by decide) (zI_ne (by omega)) (fun hc15 => ?_) (fun hc15 => ?_)
      · exact absurd hc15 (by omega)
      · refine hv_aload_n C dL_best_18 1 rfl ?_
        refine hv_bipush C dL_best_19 (v := zI (7)) (by decide +kernel) ?_
        refine hv_iconst C dL_best_21 (v := zI (0)) rfl ?_
        refine hv_iconst C dL_best_22 (v := zI (0)) rfl ?_
        refine hv_iconst C dL_best_23 (v := zI (1)) rfl ?_
        refine hz_callS (As := [.ref (a 0), .int (zI (7)), .int (zI (0)), .int (zI (0)), .int (zI (1))]) (rest := []) (wc := ob_W dA a L u1) (wr := ob_W dA b L u2) C X (k_R_clip l D dA sa hst a L u1 hJ hu1.1 (0) (by decide) (0) (by decide) (1) (by decide) hx_ISE (xc_clip_b hg h0)) (va_cwS 5 C.1.2.2.2.2 (hw_S tw_m_RL_132 tw_t_L_call tw_n_RL tw_k_L_call) rfl rfl rfl (by decide +kernel) ⟨Nat.le_of_ble_eq_true rfl, Nat.le_of_ble_eq_true rfl⟩) (List.Perm.refl _) rfl rfl (Nat.le_of_ble_eq_true rfl) dL_best_24 ⟨Nat.le_of_ble_eq_true rfl, Nat.le_of_ble_eq_true rfl⟩ (fun u3 hu3 => ?_)
        have haj3 := ob_pj hu3 haj1
        refine hv_eqst (st' := [.int (zI (ob_er hx_ISE))]) rfl ?_
        refine hv_topi (y := zI (-9999003)) (by rw [ob_er_ISE]) ?_
        refine hv_ldc C dL_best_27 (hw_c tw_o_RL_33) ?_
        refine hv_topi (y := zI (-9999003)) (by decide +kernel) ?_
        refine hv_icmp_ne C dL_best_29 (tgt := 50) (by decide) (zI_ne (by omega)) (fun hc29 => ?_) (fun hc29 => ?_)
        · exact absurd hc29 (by omega)
        · refine hv_aload_n C dL_best_32 2 rfl ?_
          refine hv_bipush C dL_best_33 (v := zI (7)) (by decide +kernel) ?_
          refine hv_iconst C dL_best_35 (v := zI (0)) rfl ?_
          refine hv_iconst C dL_best_36 (v := zI (0)) rfl ?_
          refine hv_iconst C dL_best_37 (v := zI (1)) rfl ?_
          refine hz_callS (As := [.ref (b 0), .int (zI (7)), .int (zI (0)), .int (zI (0)), .int (zI (1))]) (rest := []) (wc := ob_W dA b L u2) (wr := ob_W dA a L u3) C X (k_R_clip l D dA sa hst b L u2 hJ hu2.1 (0) (by decide) (0) (by decide) (1) (by decide) hx_ISE (xc_clip_b hg h0)) (va_cwS 5 C.1.2.2.2.2 (hw_S tw_m_RL_132 tw_t_L_call tw_n_RL tw_k_L_call) rfl rfl rfl (by decide +kernel) ⟨Nat.le_of_ble_eq_true rfl, Nat.le_of_ble_eq_true rfl⟩) List.perm_append_comm rfl rfl (Nat.le_of_ble_eq_true rfl) dL_best_38 ⟨Nat.le_of_ble_eq_true rfl, Nat.le_of_ble_eq_true rfl⟩ (fun u4 hu4 => ?_)
          have haj4 := ob_pj hu4 haj2
          refine hv_perm (ws' := ob_W dA a L u3 ++ ob_W dA b L u4) List.perm_append_comm ?_
          refine hv_eqst (st' := [.int (zI (ob_er hx_ISE))]) rfl ?_
          refine hv_topi (y := zI (-9999003)) (by rw [ob_er_ISE]) ?_
          refine hv_ldc C dL_best_41 (hw_c tw_o_RL_33) ?_
          refine hv_topi (y := zI (-9999003)) (by decide +kernel) ?_
          refine hv_icmp_ne C dL_best_43 (tgt := 50) (by decide) (zI_ne (by omega)) (fun hc43 => ?_) (fun hc43 => ?_)
          · exact absurd hc43 (by omega)
          · refine hv_iconst C dL_best_46 (v := zI (1)) rfl ?_
            refine hv_goto C dL_best_47 (tgt := 51) (by decide) ?_
            exact hv_iret C M dL_best_51 rfl zB_n1 (L, u3, u4) ⟨⟨hJ, hB, rfl⟩, ⟨hu3.1, haj3⟩, hu4.1, haj4⟩ rfl [] (List.Perm.of_eq (List.append_nil _).symm) (Nat.le_of_ble_eq_true rfl) (Nat.le_of_ble_eq_true rfl)
  · obtain ⟨bb, hb1, hb2, hb3, hb4, hb5, hb6⟩ := wo_best_pos (w := (gW (lg L))) hS hR hg.H h0
    have hbo := ob_bok hS hR hb1
    have hbw := wo_cls_w hS hR hb1
    have hec : ((bb : Nat) : Int) = 100 * ((bb : Int) / 100) + 10 * ((bb : Int) / 10 % 10) + (bb : Int) % 10 := by omega
    have hxc : xc_clip (lg L) ((bb : Int) / 100) ((bb : Int) / 10 % 10) ((bb : Int) % 10) = none := xc_clip_n (by omega) (by omega) hec hb4
    have hgw : lg L 4 * wo_gain (gS (lg L)) (gW (lg L)) (wo (gS (lg L)) (gW (lg L)) (gR (lg L))) (gH (lg L)) bb = ox_w (lg L) := by rw [hb5]; rfl
    have hfi := fv_fi hg bb
    have hwb := ox_w_ran hg (b := (sp_bh (gS (lg L)) (gW (lg L)) (gH (lg L)) bb)) (Nat.lt_of_le_of_lt (sp_bh_le _ _ _ _) hg.H)
    have hlv18 := sp_lv18 (gH (lg L))
    have hlb18 := sp_lv18 (sp_bh (gS (lg L)) (gW (lg L)) (gH (lg L)) bb)
    refine hv_aload_n C dL_best_0 0 rfl ?_
    refine hv_callV (As := []) (rest := []) (wc := ob_W dA a L h) (wr := ob_W dA b L h9) C (k_O_bestClip l D dA a L h hJ hk0 haj) (cwV 0 C.1.2.2.2.2 (hw_V tw_m_RL_152 tw_i_X8_bestClip tw_s_X8_bestClip tw_n_RX8 tw_k_X8_bestClip) rfl rfl rfl (by decide +kernel) ⟨Nat.le_of_ble_eq_true rfl, Nat.le_of_ble_eq_true rfl⟩) (List.Perm.refl _) rfl 0 6 rfl rfl rfl (Nat.le_of_ble_eq_true rfl) dL_best_1 ⟨Nat.le_of_ble_eq_true rfl, Nat.le_of_ble_eq_true rfl⟩ (fun u5 hu5 => ?_)
    have haj5 := ob_pj hu5 haj
    refine hv_eqst (st' := [.int (zI (wo_best (gS (lg L)) (gW (lg L)) (gR (lg L)) (gH (lg L))))]) rfl ?_
    refine hv_topi (y := zI ((bb : Int))) (by rw [show wo_best (gS (lg L)) (gW (lg L)) (gR (lg L)) (gH (lg L)) = (bb : Int) from hb3]) ?_
    refine hv_istore_n C dL_best_4 (lw := [(2, .int (zI ((bb : Int)))), (0, .ref (a 0)), (1, .ref (b 0))]) (by decide) rfl ?_
    refine hv_iload_n C dL_best_5 0 rfl ?_
    refine hv_iconst C dL_best_6 (v := zI (-1)) rfl ?_
    refine hv_icmp_ne C dL_best_7 (tgt := 52) (by decide) (zI_ne (by omega)) (fun hc7 => ?_) (fun hc7 => ?_)
    · refine hv_iload_n C dL_best_52 0 rfl ?_
      refine hv_bipush C dL_best_53 (v := zI (100)) (by decide +kernel) ?_
      refine hv_idiv C dL_best_55 (z := zI ((bb : Int) / 100)) ((zI_ne0 (by omega)).mpr (by omega)) ((zI_div (by omega)).trans (zI_c (by omega))) ?_
      refine hv_istore_n C dL_best_56 (lw := [(3, .int (zI ((bb : Int) / 100))), (2, .int (zI ((bb : Int)))), (0, .ref (a 0)), (1, .ref (b 0))]) (by decide) rfl ?_
      refine hv_iload_n C dL_best_57 1 rfl ?_
      refine hv_bipush C dL_best_58 (v := zI (10)) (by decide +kernel) ?_
      refine hv_idiv C dL_best_60 (z := zI ((bb : Int) / 10)) ((zI_ne0 (by omega)).mpr (by omega)) ((zI_div (by omega)).trans (zI_c (by omega))) ?_
      refine hv_bipush C dL_best_61 (v := zI (10)) (by decide +kernel) ?_
      refine hv_irem C dL_best_63 (z := zI ((bb : Int) / 10 % 10)) ((zI_ne0 (by omega)).mpr (by omega)) ((zI_rem (by omega)).trans (zI_c (by omega))) ?_
      refine hv_istore C dL_best_64 (lw := [(4, .int (zI ((bb : Int) / 10 % 10))), (3, .int (zI ((bb : Int) / 100))), (2, .int (zI ((bb : Int)))), (0, .ref (a 0)), (1, .ref (b 0))]) (by decide) rfl ?_
      refine hv_aload_n C dL_best_66 3 rfl ?_
      refine hv_callV (As := []) (rest := []) (wc := ob_W dA a L u5) (wr := ob_W dA b L h9) C (k_O_worth l D dA a L u5 hJ hu5.1 haj5) (cwV 0 C.1.2.2.2.2 (hw_V tw_m_RL_149 tw_i_X8_worth tw_s_X8_worth tw_n_RX8 tw_k_X8_worth) rfl rfl rfl (by decide +kernel) ⟨Nat.le_of_ble_eq_true rfl, Nat.le_of_ble_eq_true rfl⟩) (List.Perm.refl _) rfl 0 6 rfl rfl rfl (Nat.le_of_ble_eq_true rfl) dL_best_67 ⟨Nat.le_of_ble_eq_true rfl, Nat.le_of_ble_eq_true rfl⟩ (fun u6 hu6 => ?_)
      have haj6 := ob_pj hu6 haj5
      refine hv_eqst (st' := [.int (zI (100 + ox_w (lg L)))]) rfl ?_
      refine hv_bipush C dL_best_70 (v := zI (100)) (by decide +kernel) ?_
      refine hv_isub C dL_best_72 (z := zI (ox_w (lg L))) ((zI_sub _ _).trans (zI_c (by omega))) ?_
      refine hv_istore C dL_best_73 (lw := [(5, .int (zI (ox_w (lg L)))), (4, .int (zI ((bb : Int) / 10 % 10))), (3, .int (zI ((bb : Int) / 100))), (2, .int (zI ((bb : Int)))), (0, .ref (a 0)), (1, .ref (b 0))]) (by decide) rfl ?_
      refine hv_aload_n C dL_best_75 4 rfl ?_
      refine hv_callV (As := []) (rest := []) (wc := ob_W dA a L u6) (wr := ob_W dA b L h9) C (k_O_winner l D dA a L u6 hJ hu6.1 haj6) (cwV 0 C.1.2.2.2.2 (hw_V tw_m_RL_158 tw_i_X8_winner tw_s_X8_winner tw_n_RX8 tw_k_X8_winner) rfl rfl rfl (by decide +kernel) ⟨Nat.le_of_ble_eq_true rfl, Nat.le_of_ble_eq_true rfl⟩) (List.Perm.refl _) rfl 0 6 rfl rfl rfl (Nat.le_of_ble_eq_true rfl) dL_best_76 ⟨Nat.le_of_ble_eq_true rfl, Nat.le_of_ble_eq_true rfl⟩ (fun u7 hu7 => ?_)
      have haj7 := ob_pj hu7 haj6
      refine hv_eqst (st' := [.int (zI (ox_win (lg L)))]) rfl ?_
      refine hv_istore C dL_best_79 (lw := [(6, .int (zI (ox_win (lg L)))), (5, .int (zI (ox_w (lg L)))), (4, .int (zI ((bb : Int) / 10 % 10))), (3, .int (zI ((bb : Int) / 100))), (2, .int (zI ((bb : Int)))), (0, .ref (a 0)), (1, .ref (b 0))]) (by decide) rfl ?_
      refine hv_aload_n C dL_best_81 5 rfl ?_
      refine hv_iconst C dL_best_82 (v := zI (2)) rfl ?_
      refine hv_iconst C dL_best_83 (v := zI (4)) rfl ?_
      refine hv_iconst C dL_best_84 (v := zI (0)) rfl ?_
      refine hv_iconst C dL_best_85 (v := zI (0)) rfl ?_
      refine hz_callS (As := [.ref (a 0), .int (zI (2)), .int (zI (4)), .int (zI (0)), .int (zI (0))]) (rest := []) (wc := ob_W dA a L u7) (wr := ob_W dA b L h9) C X (k_C_about_r l D dA sa hst a L u7 hJ hu7.1 (4) (by decide) (0) (0) haj7) (va_cwS 5 C.1.2.2.2.2 (hw_S tw_m_RL_132 tw_t_L_call tw_n_RL tw_k_L_call) rfl rfl rfl (by decide +kernel) ⟨Nat.le_of_ble_eq_true rfl, Nat.le_of_ble_eq_true rfl⟩) (List.Perm.refl _) rfl rfl (Nat.le_of_ble_eq_true rfl) dL_best_86 ⟨Nat.le_of_ble_eq_true rfl, Nat.le_of_ble_eq_true rfl⟩ (fun u8 hu8 => ?_)
      have haj8 := ob_pj hu8 haj7
      refine hv_eqst (st' := [.int (zI (an_about L (4)))]) rfl ?_
      refine hv_topi (y := zI (lg L 3)) (by rw [show an_about L (4) = lg L 3 from an_abo4 L]) ?_
      refine hv_istore C dL_best_89 (lw := [(7, .int (zI (lg L 3))), (6, .int (zI (ox_win (lg L)))), (5, .int (zI (ox_w (lg L)))), (4, .int (zI ((bb : Int) / 10 % 10))), (3, .int (zI ((bb : Int) / 100))), (2, .int (zI ((bb : Int)))), (0, .ref (a 0)), (1, .ref (b 0))]) (by decide) rfl ?_
      refine hv_aload_n C dL_best_91 6 rfl ?_
      refine hv_iconst C dL_best_92 (v := zI (4)) rfl ?_
      refine hv_iload C dL_best_93 0 rfl ?_
      refine hv_iconst C dL_best_95 (v := zI (0)) rfl ?_
      refine hv_iconst C dL_best_96 (v := zI (0)) rfl ?_
      refine hz_callS (As := [.ref (a 0), .int (zI (4)), .int (zI (lg L 3)), .int (zI (0)), .int (zI (0))]) (rest := []) (wc := ob_W dA a L u8) (wr := ob_W dA b L h9) C X (k_C_who l D dA sa hst a L u8 hJ hu8.1 (lg L 3) (by omega) (0) (by decide) (0)) (va_cwS 5 C.1.2.2.2.2 (hw_S tw_m_RL_132 tw_t_L_call tw_n_RL tw_k_L_call) rfl rfl rfl (by decide +kernel) ⟨Nat.le_of_ble_eq_true rfl, Nat.le_of_ble_eq_true rfl⟩) (List.Perm.refl _) rfl rfl (Nat.le_of_ble_eq_true rfl) dL_best_97 ⟨Nat.le_of_ble_eq_true rfl, Nat.le_of_ble_eq_true rfl⟩ (fun u9 hu9 => ?_)
      have haj9 := ob_pj hu9 haj8
      refine hv_eqst (st' := [.int (zI (an_who L (lg L 3) (0)))]) rfl ?_
      refine hv_topi (y := zI (if lg L 3 = 0 then lg L 6 else lg L 7)) (by rw [show an_who L (lg L 3) (0) = if lg L 3 = 0 then lg L 6 else lg L 7 from an_who0 L (by omega)]) ?_
      refine hv_istore C dL_best_100 (lw := [(8, .int (zI (if lg L 3 = 0 then lg L 6 else lg L 7))), (7, .int (zI (lg L 3))), (6, .int (zI (ox_win (lg L)))), (5, .int (zI (ox_w (lg L)))), (4, .int (zI ((bb : Int) / 10 % 10))), (3, .int (zI ((bb : Int) / 100))), (2, .int (zI ((bb : Int)))), (0, .ref (a 0)), (1, .ref (b 0))]) (by decide) rfl ?_
      refine hv_aload_n C dL_best_102 7 rfl ?_
      refine hv_iconst C dL_best_103 (v := zI (2)) rfl ?_
      refine hv_iconst C dL_best_104 (v := zI (1)) rfl ?_
      refine hv_iconst C dL_best_105 (v := zI (0)) rfl ?_
      refine hv_iconst C dL_best_106 (v := zI (0)) rfl ?_
      refine hz_callS (As := [.ref (a 0), .int (zI (2)), .int (zI (1)), .int (zI (0)), .int (zI (0))]) (rest := []) (wc := ob_W dA a L u9) (wr := ob_W dA b L h9) C X (k_C_about_r l D dA sa hst a L u9 hJ hu9.1 (1) (by decide) (0) (0) haj9) (va_cwS 5 C.1.2.2.2.2 (hw_S tw_m_RL_132 tw_t_L_call tw_n_RL tw_k_L_call) rfl rfl rfl (by decide +kernel) ⟨Nat.le_of_ble_eq_true rfl, Nat.le_of_ble_eq_true rfl⟩) (List.Perm.refl _) rfl rfl (Nat.le_of_ble_eq_true rfl) dL_best_107 ⟨Nat.le_of_ble_eq_true rfl, Nat.le_of_ble_eq_true rfl⟩ (fun u10 hu10 => ?_)
      have haj10 := ob_pj hu10 haj9
      refine hv_eqst (st' := [.int (zI (an_about L (1)))]) rfl ?_
      refine hv_topi (y := zI ((sp_lv (gH (lg L)) : Int))) (by rw [show an_about L (1) = (sp_lv (gH (lg L)) : Int) from an_abo1 L]) ?_
      refine hv_istore C dL_best_110 (lw := [(9, .int (zI ((sp_lv (gH (lg L)) : Int)))), (8, .int (zI (if lg L 3 = 0 then lg L 6 else lg L 7))), (7, .int (zI (lg L 3))), (6, .int (zI (ox_win (lg L)))), (5, .int (zI (ox_w (lg L)))), (4, .int (zI ((bb : Int) / 10 % 10))), (3, .int (zI ((bb : Int) / 100))), (2, .int (zI ((bb : Int)))), (0, .ref (a 0)), (1, .ref (b 0))]) (by decide) rfl ?_
      refine hv_aload_n C dL_best_112 8 rfl ?_
      refine hv_iconst C dL_best_113 (v := zI (4)) rfl ?_
      refine hv_iload C dL_best_114 2 rfl ?_
      refine hv_iconst C dL_best_116 (v := zI (2)) rfl ?_
      refine hv_iconst C dL_best_117 (v := zI (0)) rfl ?_
      refine hz_callS (As := [.ref (a 0), .int (zI (4)), .int (zI (lg L 3)), .int (zI (2)), .int (zI (0))]) (rest := []) (wc := ob_W dA a L u10) (wr := ob_W dA b L h9) C X (k_C_who l D dA sa hst a L u10 hJ hu10.1 (lg L 3) (by omega) (2) (by decide) (0)) (va_cwS 5 C.1.2.2.2.2 (hw_S tw_m_RL_132 tw_t_L_call tw_n_RL tw_k_L_call) rfl rfl rfl (by decide +kernel) ⟨Nat.le_of_ble_eq_true rfl, Nat.le_of_ble_eq_true rfl⟩) (List.Perm.refl _) rfl rfl (Nat.le_of_ble_eq_true rfl) dL_best_118 ⟨Nat.le_of_ble_eq_true rfl, Nat.le_of_ble_eq_true rfl⟩ (fun u11 hu11 => ?_)
      have haj11 := ob_pj hu11 haj10
      refine hv_eqst (st' := [.int (zI (an_who L (lg L 3) (2)))]) rfl ?_
      refine hv_topi (y := zI (if lg L 3 = 0 then lg L 10 else lg L 11)) (by rw [show an_who L (lg L 3) (2) = if lg L 3 = 0 then lg L 10 else lg L 11 from an_who2 L (by omega)]) ?_
      refine hv_istore C dL_best_121 (lw := [(10, .int (zI (if lg L 3 = 0 then lg L 10 else lg L 11))), (9, .int (zI ((sp_lv (gH (lg L)) : Int)))), (8, .int (zI (if lg L 3 = 0 then lg L 6 else lg L 7))), (7, .int (zI (lg L 3))), (6, .int (zI (ox_win (lg L)))), (5, .int (zI (ox_w (lg L)))), (4, .int (zI ((bb : Int) / 10 % 10))), (3, .int (zI ((bb : Int) / 100))), (2, .int (zI ((bb : Int)))), (0, .ref (a 0)), (1, .ref (b 0))]) (by decide) rfl ?_
      refine hv_aload_n C dL_best_123 9 rfl ?_
      refine hv_iload_n C dL_best_124 7 rfl ?_
      refine hv_iload C dL_best_125 6 rfl ?_
      refine hv_iload_n C dL_best_127 8 rfl ?_
      refine hv_bipush C dL_best_128 (v := zI (10)) (by decide +kernel) ?_
      refine hv_irem C dL_best_130 (z := zI ((bb : Int) % 10)) ((zI_ne0 (by omega)).mpr (by omega)) ((zI_rem (by omega)).trans (zI_c (by omega))) ?_
      refine hv_iconst C dL_best_131 (v := zI (1)) rfl ?_
      refine hy_callS (As := [.ref (a 0), .int (zI ((bb : Int) / 100)), .int (zI ((bb : Int) / 10 % 10)), .int (zI ((bb : Int) % 10)), .int (zI (1))]) (rest := []) (wc := ob_W dA a L u11) (wr := ob_W dA b L h9) C X (k_T_would l D dA sa hst a L u11 hJ hu11.1 ((bb : Int) / 100) (by omega) ((bb : Int) / 10 % 10) (by omega) ((bb : Int) % 10) (by omega) (1) (by decide) haj11) (vx_cwSW 5 C.1.2.2.2.2 (hw_SH tw_m_RL_136 tw_t_L_would tw_n_RL tw_k_L_would) rfl rfl rfl (by decide +kernel) ⟨Nat.le_of_ble_eq_true rfl, Nat.le_of_ble_eq_true rfl⟩) (List.Perm.refl _) rfl rfl (Nat.le_of_ble_eq_true rfl) dL_best_132 ⟨Nat.le_of_ble_eq_true rfl, Nat.le_of_ble_eq_true rfl⟩ (fun u12 hu12 => ?_)
      have haj12 := ob_pj hu12 haj11
      refine hv_eqst (st' := [.int (zI (an_would L ((bb : Int) / 100) ((bb : Int) / 10 % 10) ((bb : Int) % 10) (1)))]) rfl ?_
      refine hv_topi (y := zI (((sp_bh (gS (lg L)) (gW (lg L)) (gH (lg L)) bb) : Int))) (by rw [show an_would L ((bb : Int) / 100) ((bb : Int) / 10 % 10) ((bb : Int) % 10) (1) = ((sp_bh (gS (lg L)) (gW (lg L)) (gH (lg L)) bb) : Int) from (an_wou (by omega) (by decide)).trans (xa_ifc_t (c := bb) (1) (by omega) hec hb4)]) ?_
      refine hv_istore C dL_best_135 (lw := [(11, .int (zI (((sp_bh (gS (lg L)) (gW (lg L)) (gH (lg L)) bb) : Int)))), (10, .int (zI (if lg L 3 = 0 then lg L 10 else lg L 11))), (9, .int (zI ((sp_lv (gH (lg L)) : Int)))), (8, .int (zI (if lg L 3 = 0 then lg L 6 else lg L 7))), (7, .int (zI (lg L 3))), (6, .int (zI (ox_win (lg L)))), (5, .int (zI (ox_w (lg L)))), (4, .int (zI ((bb : Int) / 10 % 10))), (3, .int (zI ((bb : Int) / 100))), (2, .int (zI ((bb : Int)))), (0, .ref (a 0)), (1, .ref (b 0))]) (by decide) rfl ?_
      refine hv_aload_n C dL_best_137 10 rfl ?_
      refine hv_bipush C dL_best_138 (v := zI (7)) (by decide +kernel) ?_
      refine hv_iload_n C dL_best_140 8 rfl ?_
      refine hv_iload C dL_best_141 7 rfl ?_
      refine hv_iload_n C dL_best_143 9 rfl ?_
      refine hv_bipush C dL_best_144 (v := zI (10)) (by decide +kernel) ?_
      refine hv_irem C dL_best_146 (z := zI ((bb : Int) % 10)) ((zI_ne0 (by omega)).mpr (by omega)) ((zI_rem (by omega)).trans (zI_c (by omega))) ?_
      refine hz_callS (As := [.ref (a 0), .int (zI (7)), .int (zI ((bb : Int) / 100)), .int (zI ((bb : Int) / 10 % 10)), .int (zI ((bb : Int) % 10))]) (rest := []) (wc := ob_W dA a L u12) (wr := ob_W dA b L h9) C X (k_C_clip l D dA sa hst a L u12 hJ hu12.1 ((bb : Int) / 100) (by omega) ((bb : Int) / 10 % 10) (by omega) ((bb : Int) % 10) (by omega)) (va_cwS 5 C.1.2.2.2.2 (hw_S tw_m_RL_132 tw_t_L_call tw_n_RL tw_k_L_call) rfl rfl rfl (by decide +kernel) ⟨Nat.le_of_ble_eq_true rfl, Nat.le_of_ble_eq_true rfl⟩) (List.Perm.refl _) rfl rfl (Nat.le_of_ble_eq_true rfl) dL_best_147 ⟨Nat.le_of_ble_eq_true rfl, Nat.le_of_ble_eq_true rfl⟩ (fun u13 hu13 => ?_)
      have haj13 := ob_pj hu13 haj12
      refine hv_weq (ws' := ob_W dA a (ob_keep L (ox_clip (lg L) bb)) u13 ++ ob_W dA b L h9) (by rw [show st_clip L ((bb : Int) / 100) ((bb : Int) / 10 % 10) ((bb : Int) % 10) = ob_keep L (ox_clip (lg L) bb) from st_clip_t hec hxc]) ?_
      refine hv_eqst (st' := [.int (zI (an_clip L ((bb : Int) / 100) ((bb : Int) / 10 % 10) ((bb : Int) % 10)))]) rfl ?_
      refine hv_topi (y := zI (lg L 4 * ((sp_lc (gH (lg L)) : Int) - (sp_lc (sp_bh (gS (lg L)) (gW (lg L)) (gH (lg L)) bb) : Int)))) (by rw [show an_clip L ((bb : Int) / 100) ((bb : Int) / 10 % 10) ((bb : Int) % 10) = lg L 4 * ((sp_lc (gH (lg L)) : Int) - (sp_lc (sp_bh (gS (lg L)) (gW (lg L)) (gH (lg L)) bb) : Int)) from an_clip_t hec hxc]) ?_
      refine hv_istore C dL_best_150 (lw := [(12, .int (zI (lg L 4 * ((sp_lc (gH (lg L)) : Int) - (sp_lc (sp_bh (gS (lg L)) (gW (lg L)) (gH (lg L)) bb) : Int))))), (11, .int (zI (((sp_bh (gS (lg L)) (gW (lg L)) (gH (lg L)) bb) : Int)))), (10, .int (zI (if lg L 3 = 0 then lg L 10 else lg L 11))), (9, .int (zI ((sp_lv (gH (lg L)) : Int)))), (8, .int (zI (if lg L 3 = 0 then lg L 6 else lg L 7))), (7, .int (zI (lg L 3))), (6, .int (zI (ox_win (lg L)))), (5, .int (zI (ox_w (lg L)))), (4, .int (zI ((bb : Int) / 10 % 10))), (3, .int (zI ((bb : Int) / 100))), (2, .int (zI ((bb : Int)))), (0, .ref (a 0)), (1, .ref (b 0))]) (by decide) rfl ?_
      refine hv_iload C dL_best_152 0 rfl ?_
      refine hv_if_lt C dL_best_154 (tgt := 275) (by decide) (zI_lt0 (by omega)) (fun hc154 => ?_) (fun hc154 => ?_)
      · exact absurd hc154 (by omega)
      · refine hv_aload_n C dL_best_157 12 rfl ?_
        refine hv_bipush C dL_best_158 (v := zI (7)) (by decide +kernel) ?_
        refine hv_iload_n C dL_best_160 9 rfl ?_
        refine hv_iload C dL_best_161 8 rfl ?_
        refine hv_iload_n C dL_best_163 10 rfl ?_
        refine hv_bipush C dL_best_164 (v := zI (10)) (by decide +kernel) ?_
        refine hv_irem C dL_best_166 (z := zI ((bb : Int) % 10)) ((zI_ne0 (by omega)).mpr (by omega)) ((zI_rem (by omega)).trans (zI_c (by omega))) ?_
        refine hz_callS (As := [.ref (b 0), .int (zI (7)), .int (zI ((bb : Int) / 100)), .int (zI ((bb : Int) / 10 % 10)), .int (zI ((bb : Int) % 10))]) (rest := []) (wc := ob_W dA b L h9) (wr := ob_W dA a (ob_keep L (ox_clip (lg L) bb)) u13) C X (k_C_clip l D dA sa hst b L h9 hJ hk9 ((bb : Int) / 100) (by omega) ((bb : Int) / 10 % 10) (by omega) ((bb : Int) % 10) (by omega)) (va_cwS 5 C.1.2.2.2.2 (hw_S tw_m_RL_132 tw_t_L_call tw_n_RL tw_k_L_call) rfl rfl rfl (by decide +kernel) ⟨Nat.le_of_ble_eq_true rfl, Nat.le_of_ble_eq_true rfl⟩) List.perm_append_comm rfl rfl (Nat.le_of_ble_eq_true rfl) dL_best_167 ⟨Nat.le_of_ble_eq_true rfl, Nat.le_of_ble_eq_true rfl⟩ (fun u14 hu14 => ?_)
        have haj14 := ob_pj hu14 hajq
        refine hv_perm (ws' := ob_W dA a (ob_keep L (ox_clip (lg L) bb)) u13 ++ ob_W dA b (st_clip L ((bb : Int) / 100) ((bb : Int) / 10 % 10) ((bb : Int) % 10)) u14) List.perm_append_comm ?_
        refine hv_weq (ws' := ob_W dA a (ob_keep L (ox_clip (lg L) bb)) u13 ++ ob_W dA b (ob_keep L (ox_clip (lg L) bb)) u14) (by rw [show st_clip L ((bb : Int) / 100) ((bb : Int) / 10 % 10) ((bb : Int) % 10) = ob_keep L (ox_clip (lg L) bb) from st_clip_t hec hxc]) ?_
        refine hv_eqst (st' := [.int (zI (an_clip L ((bb : Int) / 100) ((bb : Int) / 10 % 10) ((bb : Int) % 10)))]) rfl ?_
        refine hv_topi (y := zI (lg L 4 * ((sp_lc (gH (lg L)) : Int) - (sp_lc (sp_bh (gS (lg L)) (gW (lg L)) (gH (lg L)) bb) : Int)))) (by rw [show an_clip L ((bb : Int) / 100) ((bb : Int) / 10 % 10) ((bb : Int) % 10) = lg L 4 * ((sp_lc (gH (lg L)) : Int) - (sp_lc (sp_bh (gS (lg L)) (gW (lg L)) (gH (lg L)) bb) : Int)) from an_clip_t hec hxc]) ?_
        refine hv_iload C dL_best_170 0 rfl ?_
        refine hv_icmp_ne C dL_best_172 (tgt := 275) (by decide) Iff.rfl (fun hc172 => ?_) (fun hc172 => ?_)
        · exact absurd hc172 (by exact fun q => q rfl)
        · refine hv_bipush C dL_best_175 (v := zI (100)) (by decide +kernel) ?_
          refine hv_aload_n C dL_best_177 11 rfl ?_
          refine hv_callV (As := []) (rest := [.int (zI (100))]) (wc := ob_W dA a (ob_keep L (ox_clip (lg L) bb)) u13) (wr := ob_W dA b (ob_keep L (ox_clip (lg L) bb)) u14) C (k_O_worth l D dA a (ob_keep L (ox_clip (lg L) bb)) u13 (ob_J_keep hJ (WF_clip hg bb)) hu13.1 (ob_pj hu13 haj12)) (cwV 0 C.1.2.2.2.2 (hw_V tw_m_RL_149 tw_i_X8_worth tw_s_X8_worth tw_n_RX8 tw_k_X8_worth) rfl rfl rfl (by decide +kernel) ⟨Nat.le_of_ble_eq_true rfl, Nat.le_of_ble_eq_true rfl⟩) (List.Perm.refl _) rfl 0 6 rfl rfl rfl (Nat.le_of_ble_eq_true rfl) dL_best_178 ⟨Nat.le_of_ble_eq_true rfl, Nat.le_of_ble_eq_true rfl⟩ (fun u15 hu15 => ?_)
          have haj15 := ob_pj hu15 (ob_pj hu13 haj12)
          refine hv_eqst (st' := [.int (zI (100 + ox_w (lg (ob_keep L (ox_clip (lg L) bb))))), .int (zI (100))]) rfl ?_
          refine hv_topi (y := zI (100 + lg L 4 * ox_wo (lg L) (sp_bh (gS (lg L)) (gW (lg L)) (gH (lg L)) bb))) (by rw [show 100 + ox_w (lg (ob_keep L (ox_clip (lg L) bb))) = 100 + lg L 4 * ox_wo (lg L) (sp_bh (gS (lg L)) (gW (lg L)) (gH (lg L)) bb) from rfl]) ?_
          refine hv_isub C dL_best_181 (z := zI (100 - (100 + lg L 4 * ox_wo (lg L) (sp_bh (gS (lg L)) (gW (lg L)) (gH (lg L)) bb)))) ((zI_sub _ _).trans (zI_c (by rfl))) ?_
          refine hv_iload C dL_best_182 0 rfl ?_
          refine hv_isub C dL_best_184 (z := zI (ox_w (lg L))) ((zI_sub _ _).trans (zI_c (by exact (fv_gain (W := wo (gS (lg L)) (gW (lg L)) (gR (lg L))) hb4).trans hgw))) ?_
          refine hv_iload C dL_best_185 7 rfl ?_
          refine hv_icmp_ne C dL_best_187 (tgt := 275) (by decide) Iff.rfl (fun hc187 => ?_) (fun hc187 => ?_)
          · exact absurd hc187 (by exact fun q => q rfl)
          · refine hv_aload_n C dL_best_190 11 rfl ?_
            refine hv_callV (As := []) (rest := []) (wc := ob_W dA a (ob_keep L (ox_clip (lg L) bb)) u15) (wr := ob_W dA b (ob_keep L (ox_clip (lg L) bb)) u14) C (k_O_winner l D dA a (ob_keep L (ox_clip (lg L) bb)) u15 (ob_J_keep hJ (WF_clip hg bb)) hu15.1 haj15) (cwV 0 C.1.2.2.2.2 (hw_V tw_m_RL_158 tw_i_X8_winner tw_s_X8_winner tw_n_RX8 tw_k_X8_winner) rfl rfl rfl (by decide +kernel) ⟨Nat.le_of_ble_eq_true rfl, Nat.le_of_ble_eq_true rfl⟩) (List.Perm.refl _) rfl 0 6 rfl rfl rfl (Nat.le_of_ble_eq_true rfl) dL_best_191 ⟨Nat.le_of_ble_eq_true rfl, Nat.le_of_ble_eq_true rfl⟩ (fun u16 hu16 => ?_)
            have haj16 := ob_pj hu16 haj15
            refine hv_eqst (st' := [.int (zI (ox_win (lg (ob_keep L (ox_clip (lg L) bb)))))]) rfl ?_
            refine hv_topi (y := zI (ox_win (lg L))) (by rw [show ox_win (lg (ob_keep L (ox_clip (lg L) bb))) = ox_win (lg L) from ox_win_best hg hN hB.1 hb4 hb5]) ?_
            refine hv_iload C dL_best_194 6 rfl ?_
            refine hv_icmp_ne C dL_best_196 (tgt := 275) (by decide) Iff.rfl (fun hc196 => ?_) (fun hc196 => ?_)
            · exact absurd hc196 (by exact fun q => q rfl)
            · refine hv_aload_n C dL_best_199 11 rfl ?_
              refine hv_iconst C dL_best_200 (v := zI (2)) rfl ?_
              refine hv_iconst C dL_best_201 (v := zI (4)) rfl ?_
              refine hv_iconst C dL_best_202 (v := zI (0)) rfl ?_
              refine hv_iconst C dL_best_203 (v := zI (0)) rfl ?_
              refine hz_callS (As := [.ref (a 0), .int (zI (2)), .int (zI (4)), .int (zI (0)), .int (zI (0))]) (rest := []) (wc := ob_W dA a (ob_keep L (ox_clip (lg L) bb)) u16) (wr := ob_W dA b (ob_keep L (ox_clip (lg L) bb)) u14) C X (k_C_about_r l D dA sa hst a (ob_keep L (ox_clip (lg L) bb)) u16 (ob_J_keep hJ (WF_clip hg bb)) hu16.1 (4) (by decide) (0) (0) haj16) (va_cwS 5 C.1.2.2.2.2 (hw_S tw_m_RL_132 tw_t_L_call tw_n_RL tw_k_L_call) rfl rfl rfl (by decide +kernel) ⟨Nat.le_of_ble_eq_true rfl, Nat.le_of_ble_eq_true rfl⟩) (List.Perm.refl _) rfl rfl (Nat.le_of_ble_eq_true rfl) dL_best_204 ⟨Nat.le_of_ble_eq_true rfl, Nat.le_of_ble_eq_true rfl⟩ (fun u17 hu17 => ?_)
              have haj17 := ob_pj hu17 haj16
              refine hv_eqst (st' := [.int (zI (an_about (ob_keep L (ox_clip (lg L) bb)) (4)))]) rfl ?_
              refine hv_topi (y := zI (1 - lg L 3)) (by rw [show an_about (ob_keep L (ox_clip (lg L) bb)) (4) = 1 - lg L 3 from an_abo4 _]) ?_
              refine hv_iconst C dL_best_207 (v := zI (1)) rfl ?_
              refine hv_iload C dL_best_208 5 rfl ?_
              refine hv_isub C dL_best_210 (z := zI (1 - lg L 3)) ((zI_sub _ _).trans (zI_c (by omega))) ?_
              refine hv_icmp_ne C dL_best_211 (tgt := 275) (by decide) Iff.rfl (fun hc211 => ?_) (fun hc211 => ?_)
              · exact absurd hc211 (by exact fun q => q rfl)
              · refine hv_aload_n C dL_best_214 11 rfl ?_
                refine hv_iconst C dL_best_215 (v := zI (4)) rfl ?_
                refine hv_iload C dL_best_216 5 rfl ?_
                refine hv_iconst C dL_best_218 (v := zI (0)) rfl ?_
                refine hv_iconst C dL_best_219 (v := zI (0)) rfl ?_
                refine hz_callS (As := [.ref (a 0), .int (zI (4)), .int (zI (lg L 3)), .int (zI (0)), .int (zI (0))]) (rest := []) (wc := ob_W dA a (ob_keep L (ox_clip (lg L) bb)) u17) (wr := ob_W dA b (ob_keep L (ox_clip (lg L) bb)) u14) C X (k_C_who l D dA sa hst a (ob_keep L (ox_clip (lg L) bb)) u17 (ob_J_keep hJ (WF_clip hg bb)) hu17.1 (lg L 3) (by omega) (0) (by decide) (0)) (va_cwS 5 C.1.2.2.2.2 (hw_S tw_m_RL_132 tw_t_L_call tw_n_RL tw_k_L_call) rfl rfl rfl (by decide +kernel) ⟨Nat.le_of_ble_eq_true rfl, Nat.le_of_ble_eq_true rfl⟩) (List.Perm.refl _) rfl rfl (Nat.le_of_ble_eq_true rfl) dL_best_220 ⟨Nat.le_of_ble_eq_true rfl, Nat.le_of_ble_eq_true rfl⟩ (fun u18 hu18 => ?_)
                have haj18 := ob_pj hu18 haj17
                refine hv_eqst (st' := [.int (zI (an_who (ob_keep L (ox_clip (lg L) bb)) (lg L 3) (0)))]) rfl ?_
                refine hv_topi (y := zI ((if lg L 3 = 0 then lg L 6 else lg L 7) + (lg L 4 * ((sp_lc (gH (lg L)) : Int) - (sp_lc (sp_bh (gS (lg L)) (gW (lg L)) (gH (lg L)) bb) : Int))))) (by rw [show an_who (ob_keep L (ox_clip (lg L) bb)) (lg L 3) (0) = (if lg L 3 = 0 then lg L 6 else lg L 7) + (lg L 4 * ((sp_lc (gH (lg L)) : Int) - (sp_lc (sp_bh (gS (lg L)) (gW (lg L)) (gH (lg L)) bb) : Int))) from (an_who0 _ (by omega)).trans (hd_had (lg L) bb)]) ?_
                refine hv_iload C dL_best_223 4 rfl ?_
                refine hv_iload C dL_best_225 0 rfl ?_
                refine hv_iadd C dL_best_227 (z := zI ((if lg L 3 = 0 then lg L 6 else lg L 7) + (lg L 4 * ((sp_lc (gH (lg L)) : Int) - (sp_lc (sp_bh (gS (lg L)) (gW (lg L)) (gH (lg L)) bb) : Int))))) ((zI_add _ _).trans (zI_c (by rfl))) ?_
                refine hv_icmp_ne C dL_best_228 (tgt := 275) (by decide) Iff.rfl (fun hc228 => ?_) (fun hc228 => ?_)
                · exact absurd hc228 (by exact fun q => q rfl)
                · refine hv_aload_n C dL_best_231 11 rfl ?_
                  refine hv_iconst C dL_best_232 (v := zI (2)) rfl ?_
                  refine hv_bipush C dL_best_233 (v := zI (7)) (by decide +kernel) ?_
                  refine hv_iconst C dL_best_235 (v := zI (0)) rfl ?_
                  refine hv_iconst C dL_best_236 (v := zI (0)) rfl ?_
                  refine hz_callS (As := [.ref (a 0), .int (zI (2)), .int (zI (7)), .int (zI (0)), .int (zI (0))]) (rest := []) (wc := ob_W dA a (ob_keep L (ox_clip (lg L) bb)) u18) (wr := ob_W dA b (ob_keep L (ox_clip (lg L) bb)) u14) C X (k_C_about_r l D dA sa hst a (ob_keep L (ox_clip (lg L) bb)) u18 (ob_J_keep hJ (WF_clip hg bb)) hu18.1 (7) (by decide) (0) (0) haj18) (va_cwS 5 C.1.2.2.2.2 (hw_S tw_m_RL_132 tw_t_L_call tw_n_RL tw_k_L_call) rfl rfl rfl (by decide +kernel) ⟨Nat.le_of_ble_eq_true rfl, Nat.le_of_ble_eq_true rfl⟩) (List.Perm.refl _) rfl rfl (Nat.le_of_ble_eq_true rfl) dL_best_237 ⟨Nat.le_of_ble_eq_true rfl, Nat.le_of_ble_eq_true rfl⟩ (fun u19 hu19 => ?_)
                  have haj19 := ob_pj hu19 haj18
                  refine hv_eqst (st' := [.int (zI (an_about (ob_keep L (ox_clip (lg L) bb)) (7)))]) rfl ?_
                  refine hv_topi (y := zI (((sp_bh (gS (lg L)) (gW (lg L)) (gH (lg L)) bb) : Int))) (by rw [show an_about (ob_keep L (ox_clip (lg L) bb)) (7) = ((sp_bh (gS (lg L)) (gW (lg L)) (gH (lg L)) bb) : Int) from an_abo7 _]) ?_
                  refine hv_iload C dL_best_240 1 rfl ?_
                  refine hv_icmp_ne C dL_best_242 (tgt := 275) (by decide) Iff.rfl (fun hc242 => ?_) (fun hc242 => ?_)
                  · exact absurd hc242 (by exact fun q => q rfl)
                  · refine hv_aload_n C dL_best_245 11 rfl ?_
                    refine hv_iconst C dL_best_246 (v := zI (4)) rfl ?_
                    refine hv_iload C dL_best_247 5 rfl ?_
                    refine hv_iconst C dL_best_249 (v := zI (2)) rfl ?_
                    refine hv_iconst C dL_best_250 (v := zI (0)) rfl ?_
                    refine hz_callS (As := [.ref (a 0), .int (zI (4)), .int (zI (lg L 3)), .int (zI (2)), .int (zI (0))]) (rest := []) (wc := ob_W dA a (ob_keep L (ox_clip (lg L) bb)) u19) (wr := ob_W dA b (ob_keep L (ox_clip (lg L) bb)) u14) C X (k_C_who l D dA sa hst a (ob_keep L (ox_clip (lg L) bb)) u19 (ob_J_keep hJ (WF_clip hg bb)) hu19.1 (lg L 3) (by omega) (2) (by decide) (0)) (va_cwS 5 C.1.2.2.2.2 (hw_S tw_m_RL_132 tw_t_L_call tw_n_RL tw_k_L_call) rfl rfl rfl (by decide +kernel) ⟨Nat.le_of_ble_eq_true rfl, Nat.le_of_ble_eq_true rfl⟩) (List.Perm.refl _) rfl rfl (Nat.le_of_ble_eq_true rfl) dL_best_251 ⟨Nat.le_of_ble_eq_true rfl, Nat.le_of_ble_eq_true rfl⟩ (fun u20 hu20 => ?_)
                    have haj20 := ob_pj hu20 haj19
                    refine hv_eqst (st' := [.int (zI (an_who (ob_keep L (ox_clip (lg L) bb)) (lg L 3) (2)))]) rfl ?_
                    refine hv_topi (y := zI ((if lg L 3 = 0 then lg L 10 else lg L 11) + ((sp_lv (gH (lg L)) : Int) - (sp_lv (sp_bh (gS (lg L)) (gW (lg L)) (gH (lg L)) bb) : Int)))) (by rw [show an_who (ob_keep L (ox_clip (lg L) bb)) (lg L 3) (2) = (if lg L 3 = 0 then lg L 10 else lg L 11) + ((sp_lv (gH (lg L)) : Int) - (sp_lv (sp_bh (gS (lg L)) (gW (lg L)) (gH (lg L)) bb) : Int)) from (an_who2 _ (by omega)).trans (hd_took (lg L) bb)]) ?_
                    refine hv_iload C dL_best_254 2 rfl ?_
                    refine hv_isub C dL_best_256 (z := zI ((sp_lv (gH (lg L)) : Int) - (sp_lv (sp_bh (gS (lg L)) (gW (lg L)) (gH (lg L)) bb) : Int))) ((zI_sub _ _).trans (zI_c (by omega))) ?_
                    refine hv_iload C dL_best_257 3 rfl ?_
                    refine hv_aload_n C dL_best_259 11 rfl ?_
                    refine hv_iconst C dL_best_260 (v := zI (2)) rfl ?_
                    refine hv_iconst C dL_best_261 (v := zI (1)) rfl ?_
                    refine hv_iconst C dL_best_262 (v := zI (0)) rfl ?_
                    refine hv_iconst C dL_best_263 (v := zI (0)) rfl ?_
                    refine hz_callS (As := [.ref (a 0), .int (zI (2)), .int (zI (1)), .int (zI (0)), .int (zI (0))]) (rest := [.int (zI ((sp_lv (gH (lg L)) : Int))), .int (zI ((sp_lv (gH (lg L)) : Int) - (sp_lv (sp_bh (gS (lg L)) (gW (lg L)) (gH (lg L)) bb) : Int)))]) (wc := ob_W dA a (ob_keep L (ox_clip (lg L) bb)) u20) (wr := ob_W dA b (ob_keep L (ox_clip (lg L) bb)) u14) C X (k_C_about_r l D dA sa hst a (ob_keep L (ox_clip (lg L) bb)) u20 (ob_J_keep hJ (WF_clip hg bb)) hu20.1 (1) (by decide) (0) (0) haj20) (va_cwS 5 C.1.2.2.2.2 (hw_S tw_m_RL_132 tw_t_L_call tw_n_RL tw_k_L_call) rfl rfl rfl (by decide +kernel) ⟨Nat.le_of_ble_eq_true rfl, Nat.le_of_ble_eq_true rfl⟩) (List.Perm.refl _) rfl rfl (Nat.le_of_ble_eq_true rfl) dL_best_264 ⟨Nat.le_of_ble_eq_true rfl, Nat.le_of_ble_eq_true rfl⟩ (fun u21 hu21 => ?_)
                    have haj21 := ob_pj hu21 haj20
                    refine hv_eqst (st' := [.int (zI (an_about (ob_keep L (ox_clip (lg L) bb)) (1))), .int (zI ((sp_lv (gH (lg L)) : Int))), .int (zI ((sp_lv (gH (lg L)) : Int) - (sp_lv (sp_bh (gS (lg L)) (gW (lg L)) (gH (lg L)) bb) : Int)))]) rfl ?_
                    refine hv_topi (y := zI ((sp_lv (sp_bh (gS (lg L)) (gW (lg L)) (gH (lg L)) bb) : Int))) (by rw [show an_about (ob_keep L (ox_clip (lg L) bb)) (1) = (sp_lv (sp_bh (gS (lg L)) (gW (lg L)) (gH (lg L)) bb) : Int) from an_abo1 _]) ?_
                    refine hv_isub C dL_best_267 (z := zI ((sp_lv (gH (lg L)) : Int) - (sp_lv (sp_bh (gS (lg L)) (gW (lg L)) (gH (lg L)) bb) : Int))) ((zI_sub _ _).trans (zI_c (by rfl))) ?_
                    refine hv_icmp_ne C dL_best_268 (tgt := 275) (by decide) Iff.rfl (fun hc268 => ?_) (fun hc268 => ?_)
                    · exact absurd hc268 (by exact fun q => q rfl)
                    · refine hv_iconst C dL_best_271 (v := zI (1)) rfl ?_
                      refine hv_goto C dL_best_272 (tgt := 276) (by decide) ?_
                      refine hv_istore C dL_best_276 (lw := [(13, .int (zI (1))), (12, .int (zI (lg L 4 * ((sp_lc (gH (lg L)) : Int) - (sp_lc (sp_bh (gS (lg L)) (gW (lg L)) (gH (lg L)) bb) : Int))))), (11, .int (zI (((sp_bh (gS (lg L)) (gW (lg L)) (gH (lg L)) bb) : Int)))), (10, .int (zI (if lg L 3 = 0 then lg L 10 else lg L 11))), (9, .int (zI ((sp_lv (gH (lg L)) : Int)))), (8, .int (zI (if lg L 3 = 0 then lg L 6 else lg L 7))), (7, .int (zI (lg L 3))), (6, .int (zI (ox_win (lg L)))), (5, .int (zI (ox_w (lg L)))), (4, .int (zI ((bb : Int) / 10 % 10))), (3, .int (zI ((bb : Int) / 100))), (2, .int (zI ((bb : Int)))), (0, .ref (a 0)), (1, .ref (b 0))]) (by decide) rfl ?_
                      refine hv_iload C dL_best_278 0 rfl ?_
                      refine hv_if_eq C dL_best_280 (tgt := 356) (by decide) (zI_eq0 (by omega)) (fun hc280 => ?_) (fun hc280 => ?_)
                      · exact absurd hc280 (by omega)
                      · refine hv_aload_n C dL_best_283 12 rfl ?_
                        refine hv_bipush C dL_best_284 (v := zI (11)) (by decide +kernel) ?_
                        refine hv_iconst C dL_best_286 (v := zI (0)) rfl ?_
                        refine hv_iconst C dL_best_287 (v := zI (0)) rfl ?_
                        refine hv_iconst C dL_best_288 (v := zI (0)) rfl ?_
                        refine hz_callS (As := [.ref (a 0), .int (zI (11)), .int (zI (0)), .int (zI (0)), .int (zI (0))]) (rest := []) (wc := ob_W dA a (ob_keep L (ox_clip (lg L) bb)) u21) (wr := ob_W dA b (ob_keep L (ox_clip (lg L) bb)) u14) C X (k_C_undo l D dA sa hst a (ob_keep L (ox_clip (lg L) bb)) u21 (ob_J_keep hJ (WF_clip hg bb)) hu21.1 (0) (0) (0)) (va_cwS 5 C.1.2.2.2.2 (hw_S tw_m_RL_132 tw_t_L_call tw_n_RL tw_k_L_call) rfl rfl rfl (by decide +kernel) ⟨Nat.le_of_ble_eq_true rfl, Nat.le_of_ble_eq_true rfl⟩) (List.Perm.refl _) rfl rfl (Nat.le_of_ble_eq_true rfl) dL_best_289 ⟨Nat.le_of_ble_eq_true rfl, Nat.le_of_ble_eq_true rfl⟩ (fun u22 hu22 => ?_)
                        have haj22 := ob_pj hu22 haj21
                        refine hv_weq (ws' := ob_W dA a (ob_un L) u22 ++ ob_W dA b (ob_keep L (ox_clip (lg L) bb)) u14) (by rw [show st_undo (ob_keep L (ox_clip (lg L) bb)) = ob_un L from ob_undo_keep L _]) ?_
                        refine hv_eqst (st' := [.int (zI (an_undo (ob_keep L (ox_clip (lg L) bb))))]) rfl ?_
                        refine hv_topi (y := zI (((min (lsz L + 1) 14 - 1 : Nat) : Int))) (by rw [show an_undo (ob_keep L (ox_clip (lg L) bb)) = ((min (lsz L + 1) 14 - 1 : Nat) : Int) from an_undo_keep hJ _]) ?_
                        refine hv_callS (As := [.int (zI (((min (lsz L + 1) 14 - 1 : Nat) : Int)))]) (rest := []) (wc := []) (wr := ob_W dA a (ob_un L) u22 ++ ob_W dA b (ob_keep L (ox_clip (lg L) bb)) u14) C (k_L_thrown_n l D dA ((min (lsz L + 1) 14 - 1 : Nat) : Int) (by omega)) (va_cwS 1 C.1.2.2.2.2 (hw_S tw_m_RL_195 tw_t_L_thrown tw_n_RL tw_k_L_thrown) rfl rfl rfl (by decide +kernel) ⟨Nat.le_of_ble_eq_true rfl, Nat.le_of_ble_eq_true rfl⟩) (List.Perm.of_eq (List.nil_append _).symm) rfl rfl (Nat.le_of_ble_eq_true rfl) dL_best_292 ⟨Nat.le_of_ble_eq_true rfl, Nat.le_of_ble_eq_true rfl⟩ (fun _ _ => ?_)
                        refine hv_weq (ws' := ob_W dA a (ob_un L) u22 ++ ob_W dA b (ob_keep L (ox_clip (lg L) bb)) u14) (List.nil_append _) ?_
                        refine hv_eqst (st' := [.int (zI (0))]) rfl ?_
                        refine hv_if_ne C dL_best_295 (tgt := 356) (by decide) (zI_ne0 (by omega)) (fun hc295 => ?_) (fun hc295 => ?_)
                        · exact absurd hc295 (by omega)
                        · refine hv_aload_n C dL_best_298 13 rfl ?_
                          refine hv_bipush C dL_best_299 (v := zI (11)) (by decide +kernel) ?_
                          refine hv_iconst C dL_best_301 (v := zI (0)) rfl ?_
                          refine hv_iconst C dL_best_302 (v := zI (0)) rfl ?_
                          refine hv_iconst C dL_best_303 (v := zI (0)) rfl ?_
                          refine hz_callS (As := [.ref (b 0), .int (zI (11)), .int (zI (0)), .int (zI (0)), .int (zI (0))]) (rest := []) (wc := ob_W dA b (ob_keep L (ox_clip (lg L) bb)) u14) (wr := ob_W dA a (ob_un L) u22) C X (k_C_undo l D dA sa hst b (ob_keep L (ox_clip (lg L) bb)) u14 (ob_J_keep hJ (WF_clip hg bb)) hu14.1 (0) (0) (0)) (va_cwS 5 C.1.2.2.2.2 (hw_S tw_m_RL_132 tw_t_L_call tw_n_RL tw_k_L_call) rfl rfl rfl (by decide +kernel) ⟨Nat.le_of_ble_eq_true rfl, Nat.le_of_ble_eq_true rfl⟩) List.perm_append_comm rfl rfl (Nat.le_of_ble_eq_true rfl) dL_best_304 ⟨Nat.le_of_ble_eq_true rfl, Nat.le_of_ble_eq_true rfl⟩ (fun u23 hu23 => ?_)
                          have haj23 := ob_pj hu23 (ob_pj hu14 hajq)
                          refine hv_perm (ws' := ob_W dA a (ob_un L) u22 ++ ob_W dA b (st_undo (ob_keep L (ox_clip (lg L) bb))) u23) List.perm_append_comm ?_
                          refine hv_weq (ws' := ob_W dA a (ob_un L) u22 ++ ob_W dA b (ob_un L) u23) (by rw [show st_undo (ob_keep L (ox_clip (lg L) bb)) = ob_un L from ob_undo_keep L _]) ?_
                          refine hv_eqst (st' := [.int (zI (an_undo (ob_keep L (ox_clip (lg L) bb))))]) rfl ?_
                          refine hv_topi (y := zI (((min (lsz L + 1) 14 - 1 : Nat) : Int))) (by rw [show an_undo (ob_keep L (ox_clip (lg L) bb)) = ((min (lsz L + 1) 14 - 1 : Nat) : Int) from an_undo_keep hJ _]) ?_
                          refine hv_callS (As := [.int (zI (((min (lsz L + 1) 14 - 1 : Nat) : Int)))]) (rest := []) (wc := []) (wr := ob_W dA a (ob_un L) u22 ++ ob_W dA b (ob_un L) u23) C (k_L_thrown_n l D dA ((min (lsz L + 1) 14 - 1 : Nat) : Int) (by omega)) (va_cwS 1 C.1.2.2.2.2 (hw_S tw_m_RL_195 tw_t_L_thrown tw_n_RL tw_k_L_thrown) rfl rfl rfl (by decide +kernel) ⟨Nat.le_of_ble_eq_true rfl, Nat.le_of_ble_eq_true rfl⟩) (List.Perm.of_eq (List.nil_append _).symm) rfl rfl (Nat.le_of_ble_eq_true rfl) dL_best_307 ⟨Nat.le_of_ble_eq_true rfl, Nat.le_of_ble_eq_true rfl⟩ (fun _ _ => ?_)
                          refine hv_weq (ws' := ob_W dA a (ob_un L) u22 ++ ob_W dA b (ob_un L) u23) (List.nil_append _) ?_
                          refine hv_eqst (st' := [.int (zI (0))]) rfl ?_
                          refine hv_if_ne C dL_best_310 (tgt := 356) (by decide) (zI_ne0 (by omega)) (fun hc310 => ?_) (fun hc310 => ?_)
                          · exact absurd hc310 (by omega)
                          · refine hv_aload_n C dL_best_313 12 rfl ?_
                            refine hv_callV (As := []) (rest := []) (wc := ob_W dA a (ob_un L) u22) (wr := ob_W dA b (ob_un L) u23) C (k_O_worth l D dA a (ob_un L) u22 (ob_J_un hJ) hu22.1 (ob_pj hu22 haj21)) (cwV 0 C.1.2.2.2.2 (hw_V tw_m_RL_149 tw_i_X8_worth tw_s_X8_worth tw_n_RX8 tw_k_X8_worth) rfl rfl rfl (by decide +kernel) ⟨Nat.le_of_ble_eq_true rfl, Nat.le_of_ble_eq_true rfl⟩) (List.Perm.refl _) rfl 0 6 rfl rfl rfl (Nat.le_of_ble_eq_true rfl) dL_best_314 ⟨Nat.le_of_ble_eq_true rfl, Nat.le_of_ble_eq_true rfl⟩ (fun u24 hu24 => ?_)
                            have haj24 := ob_pj hu24 (ob_pj hu22 haj21)
                            refine hv_eqst (st' := [.int (zI (100 + ox_w (lg (ob_un L))))]) rfl ?_
                            refine hv_topi (y := zI (100 + ox_w (lg L))) (by rw [show 100 + ox_w (lg (ob_un L)) = 100 + ox_w (lg L) from rfl]) ?_
                            refine hv_bipush C dL_best_317 (v := zI (100)) (by decide +kernel) ?_
                            refine hv_isub C dL_best_319 (z := zI (ox_w (lg L))) ((zI_sub _ _).trans (zI_c (by omega))) ?_
                            refine hv_iload C dL_best_320 8 rfl ?_
                            refine hv_icmp_ne C dL_best_322 (tgt := 356) (by decide) Iff.rfl (fun hc322 => ?_) (fun hc322 => ?_)
                            · exact absurd hc322 (by exact fun q => q rfl)
                            · refine hv_aload_n C dL_best_325 12 rfl ?_
                              refine hv_iconst C dL_best_326 (v := zI (2)) rfl ?_
                              refine hv_iconst C dL_best_327 (v := zI (1)) rfl ?_
                              refine hv_iconst C dL_best_328 (v := zI (0)) rfl ?_
                              refine hv_iconst C dL_best_329 (v := zI (0)) rfl ?_
                              refine hz_callS (As := [.ref (a 0), .int (zI (2)), .int (zI (1)), .int (zI (0)), .int (zI (0))]) (rest := []) (wc := ob_W dA a (ob_un L) u24) (wr := ob_W dA b (ob_un L) u23) C X (k_C_about_r l D dA sa hst a (ob_un L) u24 (ob_J_un hJ) hu24.1 (1) (by decide) (0) (0) haj24) (va_cwS 5 C.1.2.2.2.2 (hw_S tw_m_RL_132 tw_t_L_call tw_n_RL tw_k_L_call) rfl rfl rfl (by decide +kernel) ⟨Nat.le_of_ble_eq_true rfl, Nat.le_of_ble_eq_true rfl⟩) (List.Perm.refl _) rfl rfl (Nat.le_of_ble_eq_true rfl) dL_best_330 ⟨Nat.le_of_ble_eq_true rfl, Nat.le_of_ble_eq_true rfl⟩ (fun u25 hu25 => ?_)
                              have haj25 := ob_pj hu25 haj24
                              refine hv_eqst (st' := [.int (zI (an_about (ob_un L) (1)))]) rfl ?_
                              refine hv_topi (y := zI ((sp_lv (gH (lg L)) : Int))) (by rw [show an_about (ob_un L) (1) = (sp_lv (gH (lg L)) : Int) from an_abo1 _]) ?_
                              refine hv_iload C dL_best_333 4 rfl ?_
                              refine hv_icmp_ne C dL_best_335 (tgt := 356) (by decide) Iff.rfl (fun hc335 => ?_) (fun hc335 => ?_)
                              · exact absurd hc335 (by exact fun q => q rfl)
                              · refine hv_aload_n C dL_best_338 12 rfl ?_
                                refine hv_iconst C dL_best_339 (v := zI (4)) rfl ?_
                                refine hv_iload C dL_best_340 6 rfl ?_
                                refine hv_iconst C dL_best_342 (v := zI (0)) rfl ?_
                                refine hv_iconst C dL_best_343 (v := zI (0)) rfl ?_
                                refine hz_callS (As := [.ref (a 0), .int (zI (4)), .int (zI (lg L 3)), .int (zI (0)), .int (zI (0))]) (rest := []) (wc := ob_W dA a (ob_un L) u25) (wr := ob_W dA b (ob_un L) u23) C X (k_C_who l D dA sa hst a (ob_un L) u25 (ob_J_un hJ) hu25.1 (lg L 3) (by omega) (0) (by decide) (0)) (va_cwS 5 C.1.2.2.2.2 (hw_S tw_m_RL_132 tw_t_L_call tw_n_RL tw_k_L_call) rfl rfl rfl (by decide +kernel) ⟨Nat.le_of_ble_eq_true rfl, Nat.le_of_ble_eq_true rfl⟩) (List.Perm.refl _) rfl rfl (Nat.le_of_ble_eq_true rfl) dL_best_344 ⟨Nat.le_of_ble_eq_true rfl, Nat.le_of_ble_eq_true rfl⟩ (fun u26 hu26 => ?_)
                                have haj26 := ob_pj hu26 haj25
                                refine hv_eqst (st' := [.int (zI (an_who (ob_un L) (lg L 3) (0)))]) rfl ?_
                                refine hv_topi (y := zI (if lg L 3 = 0 then lg L 6 else lg L 7)) (by rw [show an_who (ob_un L) (lg L 3) (0) = if lg L 3 = 0 then lg L 6 else lg L 7 from an_who0 _ (by omega)]) ?_
                                refine hv_iload C dL_best_347 5 rfl ?_
                                refine hv_icmp_ne C dL_best_349 (tgt := 356) (by decide) Iff.rfl (fun hc349 => ?_) (fun hc349 => ?_)
                                · exact absurd hc349 (by exact fun q => q rfl)
                                · refine hv_iconst C dL_best_352 (v := zI (1)) rfl ?_
                                  refine hv_goto C dL_best_353 (tgt := 357) (by decide) ?_
                                  exact hv_iret C M dL_best_357 rfl zB_n1 (ob_un L, u26, u23) ⟨⟨ob_J_un hJ, ob_A_un hJ hB, rfl⟩, ⟨hu26.1, haj26⟩, hu23.1, (ob_pj hu23 (ob_pj hu14 hajq))⟩ rfl [] (List.Perm.of_eq (List.append_nil _).symm) (Nat.le_of_ble_eq_true rfl) (Nat.le_of_ble_eq_true rfl)
    · exact absurd hc7 (by omega)

