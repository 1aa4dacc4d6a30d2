set_option maxHeartbeats 4000000 in
set_option maxRecDepth 100000 in
theorem k_L_waters (l : Launch) (D : va_G) (dA : Nat → ClassId) (sa : Nat → Nat) (hst : l.stackTraces = false) (a b : Nat → Nat) (L : ob_L) (h h9 : ob_H) (hJ : ob_J L) (hk0 : ob_k h) (hk9 : ob_k h9) (haj : hal h (ox_j (lg L)) = true) (hajq : hal h9 (ox_j (lg L)) = true) (N : Int) (hB : ob_B N L) (x : Int) (hx : 0 ≤ x ∧ x < 2147483648) : hy_Ct l yL_waters (hw_W yL_waters cL_waters 11 (some .boolean)) 47 D dA sa [.ref (a 0), .ref (b 0), .int (zI (x))] (ob_W dA a L h ++ ob_W dA b L h9) 21 110 (S := ob_L × ob_H × ob_H) (fun _ => some (.int (zI (1)))) (fun u => (ob_J u.1 ∧ ob_B N u.1 ∧ lg u.1 = lg L) ∧ (ob_k u.2.1 ∧ hal u.2.1 (ox_j (lg L)) = true) ∧ ob_k u.2.2 ∧ hal u.2.2 (ox_j (lg L)) = true) (fun u => ob_W dA a u.1 u.2.1 ++ ob_W dA b u.1 u.2.2) := by
  have hg := hJ.1
  have hg0 := hg.1
  have hg1 := hg.2.1.1
  have hg2 := hg.2.2.1
  have hg3 := hg.2.2.2.1
  have hg4 := hg.2.2.2.2.1
  have hg5 := hg.2.2.2.2.2
  have e0 := hg.e0
  have e1 := hg.e1
  have e5 := hg.e5
  have hS := hg.S
  have hR := hg.R
  have hx12 := hg.x
  have hwr0 : -54 ≤ ox_w (lg L) ∧ ox_w (lg L) ≤ 54 := ox_w_ran hg hg.H
  refine hz_of (own := RL) (cc := cL_waters) (maxL := 11) (ret := (some .boolean)) rfl (by decide) rfl (Nat.le_of_ble_eq_true rfl) ?_
  intro p e s m args below meth c C X M
  refine hv_lveq (lv' := [(0, .ref (a 0)), (1, .ref (b 0)), (2, .int (zI (x)))]) rfl ?_
  have hbw := ox_bw_is (g := lg L) (gS (lg L))
  obtain ⟨hbw1, hbw2⟩ := hbw
  obtain ⟨ii, hii, hii2⟩ : ∃ ii : Nat, x % lg L 0 = (ii : Int) ∧ ii < gS (lg L) := by have h1 := Int.emod_nonneg x (show lg L 0 ≠ 0 by omega); have h2 := Int.emod_lt_of_pos x (show 0 < lg L 0 by omega); exact ⟨(x % lg L 0).toNat, by omega, by omega⟩
  rcases hbw1 with ⟨hbA, hbA2⟩ | ⟨bw, hw1, hw2, hw3, hw4, hw5⟩
  · refine hv_aload_n C dL_waters_0 0 rfl ?_
    refine hv_iconst C dL_waters_1 (v := zI (2)) rfl ?_
    refine hv_iconst C dL_waters_2 (v := zI (0)) rfl ?_
    refine hv_iconst C dL_waters_3 (v := zI (0)) rfl ?_
    refine hv_iconst C dL_waters_4 (v := zI (0)) rfl ?_
    refine hz_callS (As := [.ref (a 0), .int (zI (2)), .int (zI (0)), .int (zI (0)), .int (zI (0))]) (rest := []) (wc := ob_W dA a L h) (wr := ob_W dA b L h9) C X (k_C_about_r l D dA sa hst a L h hJ hk0 (0) (by decide) (0) (0) haj) (va_cwS 5 C.1.2.2.2.2 (hw_S tw_m_RL_132 tw_t_L_call tw_n_RL tw_k_L_call) rfl rfl rfl (by decide +kernel) ⟨Nat.le_of_ble_eq_true rfl, Nat.le_of_ble_eq_true rfl⟩) (List.Perm.refl _) rfl rfl (Nat.le_of_ble_eq_true rfl) dL_waters_5 ⟨Nat.le_of_ble_eq_true rfl, Nat.le_of_ble_eq_true rfl⟩ (fun u1 hu1 => ?_)
    have haj1 := ob_pj hu1 haj
    refine hv_eqst (st' := [.int (zI (an_about L (0)))]) rfl ?_
    refine hv_topi (y := zI (lg L 0)) (by rw [show an_about L (0) = lg L 0 from an_abo0 L]) ?_
    refine hv_istore_n C dL_waters_8 (lw := [(3, .int (zI (lg L 0))), (0, .ref (a 0)), (1, .ref (b 0)), (2, .int (zI (x)))]) (by decide) rfl ?_
    refine hv_aload_n C dL_waters_9 1 rfl ?_
    refine hv_callV (As := []) (rest := []) (wc := ob_W dA a L u1) (wr := ob_W dA b L h9) C (k_O_worth l D dA a L u1 hJ hu1.1 haj1) (cwV 0 C.1.2.2.2.2 (hw_V tw_m_RL_149 tw_i_X8_worth tw_s_X8_worth tw_n_RX8 tw_k_X8_worth) rfl rfl rfl (by decide +kernel) ⟨Nat.le_of_ble_eq_true rfl, Nat.le_of_ble_eq_true rfl⟩) (List.Perm.refl _) rfl 0 6 rfl rfl rfl (Nat.le_of_ble_eq_true rfl) dL_waters_10 ⟨Nat.le_of_ble_eq_true rfl, Nat.le_of_ble_eq_true rfl⟩ (fun u2 hu2 => ?_)
    have haj2 := ob_pj hu2 haj1
    refine hv_eqst (st' := [.int (zI (100 + ox_w (lg L)))]) rfl ?_
    refine hv_istore C dL_waters_13 (lw := [(4, .int (zI (100 + ox_w (lg L)))), (3, .int (zI (lg L 0))), (0, .ref (a 0)), (1, .ref (b 0)), (2, .int (zI (x)))]) (by decide) rfl ?_
    refine hv_aload_n C dL_waters_15 2 rfl ?_
    refine hv_callV (As := []) (rest := []) (wc := ob_W dA a L u2) (wr := ob_W dA b L h9) C (k_O_bestWater l D dA a L u2 hJ hu2.1 haj2) (cwV 0 C.1.2.2.2.2 (hw_V tw_m_RL_164 tw_i_X8_bestWater tw_s_X8_bestWater tw_n_RX8 tw_k_X8_bestWater) rfl rfl rfl (by decide +kernel) ⟨Nat.le_of_ble_eq_true rfl, Nat.le_of_ble_eq_true rfl⟩) (List.Perm.refl _) rfl 0 6 rfl rfl rfl (Nat.le_of_ble_eq_true rfl) dL_waters_16 ⟨Nat.le_of_ble_eq_true rfl, Nat.le_of_ble_eq_true rfl⟩ (fun u3 hu3 => ?_)
    have haj3 := ob_pj hu3 haj2
    refine hv_eqst (st' := [.int (zI ((ox_bw (lg L) (gS (lg L))).1))]) rfl ?_
    refine hv_topi (y := zI (-1)) (by rw [show (ox_bw (lg L) (gS (lg L))).1 = -1 from hbA]) ?_
    refine hv_istore C dL_waters_19 (lw := [(5, .int (zI (-1))), (4, .int (zI (100 + ox_w (lg L)))), (3, .int (zI (lg L 0))), (0, .ref (a 0)), (1, .ref (b 0)), (2, .int (zI (x)))]) (by decide) rfl ?_
    refine hv_iload C dL_waters_21 1 rfl ?_
    refine hv_istore C dL_waters_23 (lw := [(6, .int (zI (100 + ox_w (lg L)))), (5, .int (zI (-1))), (4, .int (zI (100 + ox_w (lg L)))), (3, .int (zI (lg L 0))), (0, .ref (a 0)), (1, .ref (b 0)), (2, .int (zI (x)))]) (by decide) rfl ?_
    refine hv_iload_n C dL_waters_25 6 rfl ?_
    refine hv_iload_n C dL_waters_26 3 rfl ?_
    refine hv_irem C dL_waters_27 (z := zI ((ii : Int))) ((zI_ne0 (by omega)).mpr (by omega)) ((zI_rem (by omega)).trans (zI_c (by exact hii))) ?_
    refine hv_istore C dL_waters_28 (lw := [(7, .int (zI ((ii : Int)))), (6, .int (zI (100 + ox_w (lg L)))), (5, .int (zI (-1))), (4, .int (zI (100 + ox_w (lg L)))), (3, .int (zI (lg L 0))), (0, .ref (a 0)), (1, .ref (b 0)), (2, .int (zI (x)))]) (by decide) rfl ?_
    refine hv_iconst C dL_waters_30 (v := zI (1)) rfl ?_
    refine hv_istore C dL_waters_31 (lw := [(8, .int (zI (1))), (7, .int (zI ((ii : Int)))), (6, .int (zI (100 + ox_w (lg L)))), (5, .int (zI (-1))), (4, .int (zI (100 + ox_w (lg L)))), (3, .int (zI (lg L 0))), (0, .ref (a 0)), (1, .ref (b 0)), (2, .int (zI (x)))]) (by decide) rfl ?_
    refine hv_iload C dL_waters_33 3 rfl ?_
    refine hv_iconst C dL_waters_35 (v := zI (-1)) rfl ?_
    refine hv_icmp_eq C dL_waters_36 (tgt := 133) (by decide) (zI_eq (by omega)) (fun hc36 => ?_) (fun hc36 => ?_)
    · rcases Classical.em (sp_dg (gH (lg L)) ii = 3) with hfull | hfull
      · refine hv_aload_n C dL_waters_133 6 rfl ?_
        refine hv_bipush C dL_waters_134 (v := zI (8)) (by decide +kernel) ?_
        refine hv_iload C dL_waters_136 1 rfl ?_
        refine hv_iconst C dL_waters_138 (v := zI (0)) rfl ?_
        refine hv_iconst C dL_waters_139 (v := zI (0)) rfl ?_
        refine hz_callS (As := [.ref (a 0), .int (zI (8)), .int (zI ((ii : Int))), .int (zI (0)), .int (zI (0))]) (rest := []) (wc := ob_W dA a L u3) (wr := ob_W dA b L h9) C X (k_R_water l D dA sa hst a L u3 hJ hu3.1 (ii : Int) (by omega) (0) (0) hx_ISE (xc_wat_x (g := lg L) (show (ii : Int) < lg L 0 from by omega) hfull)) (va_cwS 5 C.1.2.2.2.2 (hw_S tw_m_RL_132 tw_t_L_call tw_n_RL tw_k_L_call) rfl rfl rfl (by decide +kernel) ⟨Nat.le_of_ble_eq_true rfl, Nat.le_of_ble_eq_true rfl⟩) (List.Perm.refl _) rfl rfl (Nat.le_of_ble_eq_true rfl) dL_waters_140 ⟨Nat.le_of_ble_eq_true rfl, Nat.le_of_ble_eq_true rfl⟩ (fun u4 hu4 => ?_)
        have haj4 := ob_pj hu4 haj3
        refine hv_eqst (st' := [.int (zI (ob_er hx_ISE))]) rfl ?_
        refine hv_topi (y := zI (-9999003)) (by rw [ob_er_ISE]) ?_
        refine hv_istore C dL_waters_143 (lw := [(9, .int (zI (-9999003))), (8, .int (zI (1))), (7, .int (zI ((ii : Int)))), (6, .int (zI (100 + ox_w (lg L)))), (5, .int (zI (-1))), (4, .int (zI (100 + ox_w (lg L)))), (3, .int (zI (lg L 0))), (0, .ref (a 0)), (1, .ref (b 0)), (2, .int (zI (x)))]) (by decide) rfl ?_
        refine hv_iload C dL_waters_145 1 rfl ?_
        refine hv_if_eq C dL_waters_147 (tgt := 169) (by decide) (zI_eq0 (by omega)) (fun hc147 => ?_) (fun hc147 => ?_)
        · exact absurd hc147 (by omega)
        · refine hv_aload_n C dL_waters_150 8 rfl ?_
          refine hv_bipush C dL_waters_151 (v := zI (8)) (by decide +kernel) ?_
          refine hv_iload C dL_waters_153 2 rfl ?_
          refine hv_iconst C dL_waters_155 (v := zI (0)) rfl ?_
          refine hv_iconst C dL_waters_156 (v := zI (0)) rfl ?_
          refine hz_callS (As := [.ref (b 0), .int (zI (8)), .int (zI ((ii : Int))), .int (zI (0)), .int (zI (0))]) (rest := []) (wc := ob_W dA b L h9) (wr := ob_W dA a L u4) C X (k_R_water l D dA sa hst b L h9 hJ hk9 (ii : Int) (by omega) (0) (0) hx_ISE (xc_wat_x (g := lg L) (show (ii : Int) < lg L 0 from by omega) hfull)) (va_cwS 5 C.1.2.2.2.2 (hw_S tw_m_RL_132 tw_t_L_call tw_n_RL tw_k_L_call) rfl rfl rfl (by decide +kernel) ⟨Nat.le_of_ble_eq_true rfl, Nat.le_of_ble_eq_true rfl⟩) List.perm_append_comm rfl rfl (Nat.le_of_ble_eq_true rfl) dL_waters_157 ⟨Nat.le_of_ble_eq_true rfl, Nat.le_of_ble_eq_true rfl⟩ (fun u5 hu5 => ?_)
          have haj5 := ob_pj hu5 hajq
          refine hv_perm (ws' := ob_W dA a L u4 ++ ob_W dA b L u5) List.perm_append_comm ?_
          refine hv_eqst (st' := [.int (zI (ob_er hx_ISE))]) rfl ?_
          refine hv_topi (y := zI (-9999003)) (by rw [ob_er_ISE]) ?_
          refine hv_iload C dL_waters_160 0 rfl ?_
          refine hv_icmp_ne C dL_waters_162 (tgt := 169) (by decide) Iff.rfl (fun hc162 => ?_) (fun hc162 => ?_)
          · exact absurd hc162 (by exact fun q => q rfl)
          · refine hv_iconst C dL_waters_165 (v := zI (1)) rfl ?_
            refine hv_goto C dL_waters_166 (tgt := 170) (by decide) ?_
            refine hv_istore C dL_waters_170 (lw := [(8, .int (zI (1))), (9, .int (zI (-9999003))), (7, .int (zI ((ii : Int)))), (6, .int (zI (100 + ox_w (lg L)))), (5, .int (zI (-1))), (4, .int (zI (100 + ox_w (lg L)))), (3, .int (zI (lg L 0))), (0, .ref (a 0)), (1, .ref (b 0)), (2, .int (zI (x)))]) (by decide) rfl ?_
            refine hv_iload C dL_waters_172 1 rfl ?_
            refine hv_ldc C dL_waters_174 (hw_c tw_o_RL_33) ?_
            refine hv_topi (y := zI (-9999003)) (by decide +kernel) ?_
            refine hv_icmp_ne C dL_waters_176 (tgt := 203) (by decide) (zI_ne (by omega)) (fun hc176 => ?_) (fun hc176 => ?_)
            · exact absurd hc176 (by omega)
            · refine hv_iload C dL_waters_179 0 rfl ?_
              refine hv_if_eq C dL_waters_181 (tgt := 201) (by decide) (zI_eq0 (by omega)) (fun hc181 => ?_) (fun hc181 => ?_)
              · exact absurd hc181 (by omega)
              · refine hv_aload_n C dL_waters_184 7 rfl ?_
                refine hv_iconst C dL_waters_185 (v := zI (3)) rfl ?_
                refine hv_iload C dL_waters_186 2 rfl ?_
                refine hv_iconst C dL_waters_188 (v := zI (0)) rfl ?_
                refine hv_iconst C dL_waters_189 (v := zI (0)) rfl ?_
                refine hz_callS (As := [.ref (a 0), .int (zI (3)), .int (zI ((ii : Int))), .int (zI (0)), .int (zI (0))]) (rest := []) (wc := ob_W dA a L u4) (wr := ob_W dA b L u5) C X (k_C_leaves l D dA sa hst a L u4 hJ hu4.1 (ii : Int) (by omega) (0) (0)) (va_cwS 5 C.1.2.2.2.2 (hw_S tw_m_RL_132 tw_t_L_call tw_n_RL tw_k_L_call) rfl rfl rfl (by decide +kernel) ⟨Nat.le_of_ble_eq_true rfl, Nat.le_of_ble_eq_true rfl⟩) (List.Perm.refl _) rfl rfl (Nat.le_of_ble_eq_true rfl) dL_waters_190 ⟨Nat.le_of_ble_eq_true rfl, Nat.le_of_ble_eq_true rfl⟩ (fun u6 hu6 => ?_)
                have haj6 := ob_pj hu6 haj4
                refine hv_eqst (st' := [.int (zI (an_leaves L (ii : Int)))]) rfl ?_
                refine hv_topi (y := zI (3)) (by rw [show an_leaves L (ii : Int) = 3 from (an_lea ii rfl (show (ii : Int) < lg L 0 from by omega)).trans (by show ((sp_dg (gH (lg L)) ii : Nat) : Int) = 3; omega)]) ?_
                refine hv_iconst C dL_waters_193 (v := zI (3)) rfl ?_
                refine hv_icmp_ne C dL_waters_194 (tgt := 201) (by decide) (zI_ne (by omega)) (fun hc194 => ?_) (fun hc194 => ?_)
                · exact absurd hc194 (by omega)
                · refine hv_iconst C dL_waters_197 (v := zI (1)) rfl ?_
                  refine hv_goto C dL_waters_198 (tgt := 202) (by decide) ?_
                  exact hv_iret C M dL_waters_202 rfl zB_n1 (L, u6, u5) ⟨⟨hJ, hB, rfl⟩, ⟨hu6.1, haj6⟩, hu5.1, haj5⟩ rfl [] (List.Perm.of_eq (List.append_nil _).symm) (Nat.le_of_ble_eq_true rfl) (Nat.le_of_ble_eq_true rfl)
      · have hxi : xc_wat (lg L) (ii : Int) = none := xc_wat_o (by omega) hfull
        have hwi := ox_w_ran hg (sp_wat (gS (lg L)) (by omega) (gH (lg L)) ii hg.H (by omega) hfull)
        have hdi := sp_dg_lt (gH (lg L)) ii
        have hbi := hbw2.2 ii hii2 hfull
        refine hv_aload_n C dL_waters_133 6 rfl ?_
        refine hv_bipush C dL_waters_134 (v := zI (8)) (by decide +kernel) ?_
        refine hv_iload C dL_waters_136 1 rfl ?_
        refine hv_iconst C dL_waters_138 (v := zI (0)) rfl ?_
        refine hv_iconst C dL_waters_139 (v := zI (0)) rfl ?_
        refine hz_callS (As := [.ref (a 0), .int (zI (8)), .int (zI ((ii : Int))), .int (zI (0)), .int (zI (0))]) (rest := []) (wc := ob_W dA a L u3) (wr := ob_W dA b L h9) C X (k_C_water l D dA sa hst a L u3 hJ hu3.1 (ii : Int) (by omega) (0) (0)) (va_cwS 5 C.1.2.2.2.2 (hw_S tw_m_RL_132 tw_t_L_call tw_n_RL tw_k_L_call) rfl rfl rfl (by decide +kernel) ⟨Nat.le_of_ble_eq_true rfl, Nat.le_of_ble_eq_true rfl⟩) (List.Perm.refl _) rfl rfl (Nat.le_of_ble_eq_true rfl) dL_waters_140 ⟨Nat.le_of_ble_eq_true rfl, Nat.le_of_ble_eq_true rfl⟩ (fun u7 hu7 => ?_)
        have haj7 := ob_pj hu7 haj3
        refine hv_weq (ws' := ob_W dA a (ob_keep L (ox_wat (lg L) (ii : Int))) u7 ++ ob_W dA b L h9) (by rw [show st_water L (ii : Int) = ob_keep L (ox_wat (lg L) (ii : Int)) from st_wat_t (L := L) hxi]) ?_
        refine hv_eqst (st' := [.int (zI (an_water L (ii : Int)))]) rfl ?_
        refine hv_topi (y := zI ((sp_dg (gH (lg L)) ii : Int) + 1)) (by rw [show an_water L (ii : Int) = (sp_dg (gH (lg L)) ii : Int) + 1 from an_wat_t hJ (show (ii : Int) < lg L 0 from by omega) hfull]) ?_
        refine hv_istore C dL_waters_143 (lw := [(9, .int (zI ((sp_dg (gH (lg L)) ii : Int) + 1))), (8, .int (zI (1))), (7, .int (zI ((ii : Int)))), (6, .int (zI (100 + ox_w (lg L)))), (5, .int (zI (-1))), (4, .int (zI (100 + ox_w (lg L)))), (3, .int (zI (lg L 0))), (0, .ref (a 0)), (1, .ref (b 0)), (2, .int (zI (x)))]) (by decide) rfl ?_
        refine hv_iload C dL_waters_145 1 rfl ?_
        refine hv_if_eq C dL_waters_147 (tgt := 169) (by decide) (zI_eq0 (by omega)) (fun hc147 => ?_) (fun hc147 => ?_)
        · exact absurd hc147 (by omega)
        · refine hv_aload_n C dL_waters_150 8 rfl ?_
          refine hv_bipush C dL_waters_151 (v := zI (8)) (by decide +kernel) ?_
          refine hv_iload C dL_waters_153 2 rfl ?_
          refine hv_iconst C dL_waters_155 (v := zI (0)) rfl ?_
          refine hv_iconst C dL_waters_156 (v := zI (0)) rfl ?_
          refine hz_callS (As := [.ref (b 0), .int (zI (8)), .int (zI ((ii : Int))), .int (zI (0)), .int (zI (0))]) (rest := []) (wc := ob_W dA b L h9) (wr := ob_W dA a (ob_keep L (ox_wat (lg L) (ii : Int))) u7) C X (k_C_water l D dA sa hst b L h9 hJ hk9 (ii : Int) (by omega) (0) (0)) (va_cwS 5 C.1.2.2.2.2 (hw_S tw_m_RL_132 tw_t_L_call tw_n_RL tw_k_L_call) rfl rfl rfl (by decide +kernel) ⟨Nat.le_of_ble_eq_true rfl, Nat.le_of_ble_eq_true rfl⟩) List.perm_append_comm rfl rfl (Nat.le_of_ble_eq_true rfl) dL_waters_157 ⟨Nat.le_of_ble_eq_true rfl, Nat.le_of_ble_eq_true rfl⟩ (fun u8 hu8 => ?_)
          have haj8 := ob_pj hu8 hajq
          refine hv_perm (ws' := ob_W dA a (ob_keep L (ox_wat (lg L) (ii : Int))) u7 ++ ob_W dA b (st_water L (ii : Int)) u8) List.perm_append_comm ?_
          refine hv_weq (ws' := ob_W dA a (ob_keep L (ox_wat (lg L) (ii : Int))) u7 ++ ob_W dA b (ob_keep L (ox_wat (lg L) (ii : Int))) u8) (by rw [show st_water L (ii : Int) = ob_keep L (ox_wat (lg L) (ii : Int)) from st_wat_t (L := L) hxi]) ?_
          refine hv_eqst (st' := [.int (zI (an_water L (ii : Int)))]) rfl ?_
          refine hv_topi (y := zI ((sp_dg (gH (lg L)) ii : Int) + 1)) (by rw [show an_water L (ii : Int) = (sp_dg (gH (lg L)) ii : Int) + 1 from an_wat_t hJ (show (ii : Int) < lg L 0 from by omega) hfull]) ?_
          refine hv_iload C dL_waters_160 0 rfl ?_
          refine hv_icmp_ne C dL_waters_162 (tgt := 169) (by decide) Iff.rfl (fun hc162 => ?_) (fun hc162 => ?_)
          · exact absurd hc162 (by exact fun q => q rfl)
          · refine hv_iconst C dL_waters_165 (v := zI (1)) rfl ?_
            refine hv_goto C dL_waters_166 (tgt := 170) (by decide) ?_
            refine hv_istore C dL_waters_170 (lw := [(8, .int (zI (1))), (9, .int (zI ((sp_dg (gH (lg L)) ii : Int) + 1))), (7, .int (zI ((ii : Int)))), (6, .int (zI (100 + ox_w (lg L)))), (5, .int (zI (-1))), (4, .int (zI (100 + ox_w (lg L)))), (3, .int (zI (lg L 0))), (0, .ref (a 0)), (1, .ref (b 0)), (2, .int (zI (x)))]) (by decide) rfl ?_
            refine hv_iload C dL_waters_172 1 rfl ?_
            refine hv_ldc C dL_waters_174 (hw_c tw_o_RL_33) ?_
            refine hv_topi (y := zI (-9999003)) (by decide +kernel) ?_
            refine hv_icmp_ne C dL_waters_176 (tgt := 203) (by decide) (zI_ne (by omega)) (fun hc176 => ?_) (fun hc176 => ?_)
            · refine hv_aload_n C dL_waters_203 7 rfl ?_
              refine hv_callV (As := []) (rest := []) (wc := ob_W dA a (ob_keep L (ox_wat (lg L) (ii : Int))) u7) (wr := ob_W dA b (ob_keep L (ox_wat (lg L) (ii : Int))) u8) C (k_O_worth l D dA a (ob_keep L (ox_wat (lg L) (ii : Int))) u7 (ob_J_keep hJ (WF_wat hg (xc_wat_n hg hxi))) hu7.1 (ob_pj hu7 haj3)) (cwV 0 C.1.2.2.2.2 (hw_V tw_m_RL_149 tw_i_X8_worth tw_s_X8_worth tw_n_RX8 tw_k_X8_worth) rfl rfl rfl (by decide +kernel) ⟨Nat.le_of_ble_eq_true rfl, Nat.le_of_ble_eq_true rfl⟩) (List.Perm.refl _) rfl 0 6 rfl rfl rfl (Nat.le_of_ble_eq_true rfl) dL_waters_204 ⟨Nat.le_of_ble_eq_true rfl, Nat.le_of_ble_eq_true rfl⟩ (fun u9 hu9 => ?_)
              have haj9 := ob_pj hu9 (ob_pj hu7 haj3)
              refine hv_eqst (st' := [.int (zI (100 + ox_w (lg (ob_keep L (ox_wat (lg L) (ii : Int))))))]) rfl ?_
              refine hv_topi (y := zI (100 + lg L 4 * ox_wo (lg L) (gH (lg L) + 4 ^ ii))) (by rw [show 100 + ox_w (lg (ob_keep L (ox_wat (lg L) (ii : Int)))) = 100 + lg L 4 * ox_wo (lg L) (gH (lg L) + 4 ^ ii) from rfl]) ?_
              refine hv_istore C dL_waters_207 (lw := [(10, .int (zI (100 + lg L 4 * ox_wo (lg L) (gH (lg L) + 4 ^ ii)))), (8, .int (zI (1))), (9, .int (zI ((sp_dg (gH (lg L)) ii : Int) + 1))), (7, .int (zI ((ii : Int)))), (6, .int (zI (100 + ox_w (lg L)))), (5, .int (zI (-1))), (4, .int (zI (100 + ox_w (lg L)))), (3, .int (zI (lg L 0))), (0, .ref (a 0)), (1, .ref (b 0)), (2, .int (zI (x)))]) (by decide) rfl ?_
              refine hv_iload C dL_waters_209 1 rfl ?_
              refine hv_if_eq C dL_waters_211 (tgt := 284) (by decide) (zI_eq0 (by omega)) (fun hc211 => ?_) (fun hc211 => ?_)
              · exact absurd hc211 (by omega)
              · refine hv_iload C dL_waters_214 0 rfl ?_
                refine hv_iload C dL_waters_216 4 rfl ?_
                refine hv_icmp_gt C dL_waters_218 (tgt := 284) (by decide) (zI_lt (by omega)) (fun hc218 => ?_) (fun hc218 => ?_)
                · exact absurd hc218 (by omega)
                · refine hv_iload C dL_waters_221 5 rfl ?_
                  refine hv_iconst C dL_waters_223 (v := zI (-1)) rfl ?_
                  refine hv_icmp_eq C dL_waters_224 (tgt := 241) (by decide) (zI_eq (by omega)) (fun hc224 => ?_) (fun hc224 => ?_)
                  · refine hv_aload_n C dL_waters_241 8 rfl ?_
                    refine hv_bipush C dL_waters_242 (v := zI (11)) (by decide +kernel) ?_
                    refine hv_iconst C dL_waters_244 (v := zI (0)) rfl ?_
                    refine hv_iconst C dL_waters_245 (v := zI (0)) rfl ?_
                    refine hv_iconst C dL_waters_246 (v := zI (0)) rfl ?_
                    refine hz_callS (As := [.ref (a 0), .int (zI (11)), .int (zI (0)), .int (zI (0)), .int (zI (0))]) (rest := []) (wc := ob_W dA a (ob_keep L (ox_wat (lg L) (ii : Int))) u9) (wr := ob_W dA b (ob_keep L (ox_wat (lg L) (ii : Int))) u8) C X (k_C_undo l D dA sa hst a (ob_keep L (ox_wat (lg L) (ii : Int))) u9 (ob_J_keep hJ (WF_wat hg (xc_wat_n hg hxi))) hu9.1 (0) (0) (0)) (va_cwS 5 C.1.2.2.2.2 (hw_S tw_m_RL_132 tw_t_L_call tw_n_RL tw_k_L_call) rfl rfl rfl (by decide +kernel) ⟨Nat.le_of_ble_eq_true rfl, Nat.le_of_ble_eq_true rfl⟩) (List.Perm.refl _) rfl rfl (Nat.le_of_ble_eq_true rfl) dL_waters_247 ⟨Nat.le_of_ble_eq_true rfl, Nat.le_of_ble_eq_true rfl⟩ (fun u10 hu10 => ?_)
                    have haj10 := ob_pj hu10 haj9
                    refine hv_weq (ws' := ob_W dA a (ob_un L) u10 ++ ob_W dA b (ob_keep L (ox_wat (lg L) (ii : Int))) u8) (by rw [show st_undo (ob_keep L (ox_wat (lg L) (ii : Int))) = ob_un L from ob_undo_keep L _]) ?_
                    refine hv_eqst (st' := [.int (zI (an_undo (ob_keep L (ox_wat (lg L) (ii : Int)))))]) rfl ?_
                    refine hv_topi (y := zI (((min (lsz L + 1) 14 - 1 : Nat) : Int))) (by rw [show an_undo (ob_keep L (ox_wat (lg L) (ii : Int))) = ((min (lsz L + 1) 14 - 1 : Nat) : Int) from an_undo_keep hJ _]) ?_
                    refine hv_callS (As := [.int (zI (((min (lsz L + 1) 14 - 1 : Nat) : Int)))]) (rest := []) (wc := []) (wr := ob_W dA a (ob_un L) u10 ++ ob_W dA b (ob_keep L (ox_wat (lg L) (ii : Int))) u8) C (k_L_thrown_n l D dA ((min (lsz L + 1) 14 - 1 : Nat) : Int) (by omega)) (va_cwS 1 C.1.2.2.2.2 (hw_S tw_m_RL_195 tw_t_L_thrown tw_n_RL tw_k_L_thrown) rfl rfl rfl (by decide +kernel) ⟨Nat.le_of_ble_eq_true rfl, Nat.le_of_ble_eq_true rfl⟩) (List.Perm.of_eq (List.nil_append _).symm) rfl rfl (Nat.le_of_ble_eq_true rfl) dL_waters_250 ⟨Nat.le_of_ble_eq_true rfl, Nat.le_of_ble_eq_true rfl⟩ (fun _ _ => ?_)
                    refine hv_weq (ws' := ob_W dA a (ob_un L) u10 ++ ob_W dA b (ob_keep L (ox_wat (lg L) (ii : Int))) u8) (List.nil_append _) ?_
                    refine hv_eqst (st' := [.int (zI (0))]) rfl ?_
                    refine hv_if_ne C dL_waters_253 (tgt := 284) (by decide) (zI_ne0 (by omega)) (fun hc253 => ?_) (fun hc253 => ?_)
                    · exact absurd hc253 (by omega)
                    · refine hv_aload_n C dL_waters_256 9 rfl ?_
                      refine hv_bipush C dL_waters_257 (v := zI (11)) (by decide +kernel) ?_
                      refine hv_iconst C dL_waters_259 (v := zI (0)) rfl ?_
                      refine hv_iconst C dL_waters_260 (v := zI (0)) rfl ?_
                      refine hv_iconst C dL_waters_261 (v := zI (0)) rfl ?_
                      refine hz_callS (As := [.ref (b 0), .int (zI (11)), .int (zI (0)), .int (zI (0)), .int (zI (0))]) (rest := []) (wc := ob_W dA b (ob_keep L (ox_wat (lg L) (ii : Int))) u8) (wr := ob_W dA a (ob_un L) u10) C X (k_C_undo l D dA sa hst b (ob_keep L (ox_wat (lg L) (ii : Int))) u8 (ob_J_keep hJ (WF_wat hg (xc_wat_n hg hxi))) hu8.1 (0) (0) (0)) (va_cwS 5 C.1.2.2.2.2 (hw_S tw_m_RL_132 tw_t_L_call tw_n_RL tw_k_L_call) rfl rfl rfl (by decide +kernel) ⟨Nat.le_of_ble_eq_true rfl, Nat.le_of_ble_eq_true rfl⟩) List.perm_append_comm rfl rfl (Nat.le_of_ble_eq_true rfl) dL_waters_262 ⟨Nat.le_of_ble_eq_true rfl, Nat.le_of_ble_eq_true rfl⟩ (fun u11 hu11 => ?_)
                      have haj11 := ob_pj hu11 (ob_pj hu8 hajq)
                      refine hv_perm (ws' := ob_W dA a (ob_un L) u10 ++ ob_W dA b (st_undo (ob_keep L (ox_wat (lg L) (ii : Int)))) u11) List.perm_append_comm ?_
                      refine hv_weq (ws' := ob_W dA a (ob_un L) u10 ++ ob_W dA b (ob_un L) u11) (by rw [show st_undo (ob_keep L (ox_wat (lg L) (ii : Int))) = ob_un L from ob_undo_keep L _]) ?_
                      refine hv_eqst (st' := [.int (zI (an_undo (ob_keep L (ox_wat (lg L) (ii : Int)))))]) rfl ?_
                      refine hv_topi (y := zI (((min (lsz L + 1) 14 - 1 : Nat) : Int))) (by rw [show an_undo (ob_keep L (ox_wat (lg L) (ii : Int))) = ((min (lsz L + 1) 14 - 1 : Nat) : Int) from an_undo_keep hJ _]) ?_
                      refine hv_callS (As := [.int (zI (((min (lsz L + 1) 14 - 1 : Nat) : Int)))]) (rest := []) (wc := []) (wr := ob_W dA a (ob_un L) u10 ++ ob_W dA b (ob_un L) u11) C (k_L_thrown_n l D dA ((min (lsz L + 1) 14 - 1 : Nat) : Int) (by omega)) (va_cwS 1 C.1.2.2.2.2 (hw_S tw_m_RL_195 tw_t_L_thrown tw_n_RL tw_k_L_thrown) rfl rfl rfl (by decide +kernel) ⟨Nat.le_of_ble_eq_true rfl, Nat.le_of_ble_eq_true rfl⟩) (List.Perm.of_eq (List.nil_append _).symm) rfl rfl (Nat.le_of_ble_eq_true rfl) dL_waters_265 ⟨Nat.le_of_ble_eq_true rfl, Nat.le_of_ble_eq_true rfl⟩ (fun _ _ => ?_)
                      refine hv_weq (ws' := ob_W dA a (ob_un L) u10 ++ ob_W dA b (ob_un L) u11) (List.nil_append _) ?_
                      refine hv_eqst (st' := [.int (zI (0))]) rfl ?_
                      refine hv_if_ne C dL_waters_268 (tgt := 284) (by decide) (zI_ne0 (by omega)) (fun hc268 => ?_) (fun hc268 => ?_)
                      · exact absurd hc268 (by omega)
                      · refine hv_aload_n C dL_waters_271 8 rfl ?_
                        refine hv_callV (As := []) (rest := []) (wc := ob_W dA a (ob_un L) u10) (wr := ob_W dA b (ob_un L) u11) C (k_O_worth l D dA a (ob_un L) u10 (ob_J_un hJ) hu10.1 (ob_pj hu10 haj9)) (cwV 0 C.1.2.2.2.2 (hw_V tw_m_RL_149 tw_i_X8_worth tw_s_X8_worth tw_n_RX8 tw_k_X8_worth) rfl rfl rfl (by decide +kernel) ⟨Nat.le_of_ble_eq_true rfl, Nat.le_of_ble_eq_true rfl⟩) (List.Perm.refl _) rfl 0 6 rfl rfl rfl (Nat.le_of_ble_eq_true rfl) dL_waters_272 ⟨Nat.le_of_ble_eq_true rfl, Nat.le_of_ble_eq_true rfl⟩ (fun u12 hu12 => ?_)
                        have haj12 := ob_pj hu12 (ob_pj hu10 haj9)
                        refine hv_eqst (st' := [.int (zI (100 + ox_w (lg (ob_un L))))]) rfl ?_
                        refine hv_topi (y := zI (100 + ox_w (lg L))) (by rw [show 100 + ox_w (lg (ob_un L)) = 100 + ox_w (lg L) from rfl]) ?_
                        refine hv_iload C dL_waters_275 6 rfl ?_
                        refine hv_icmp_ne C dL_waters_277 (tgt := 284) (by decide) Iff.rfl (fun hc277 => ?_) (fun hc277 => ?_)
                        · exact absurd hc277 (by exact fun q => q rfl)
                        · refine hv_iconst C dL_waters_280 (v := zI (1)) rfl ?_
                          refine hv_goto C dL_waters_281 (tgt := 285) (by decide) ?_
                          exact hv_iret C M dL_waters_285 rfl zB_n1 (ob_un L, u12, u11) ⟨⟨ob_J_un hJ, ob_A_un hJ hB, rfl⟩, ⟨hu12.1, haj12⟩, hu11.1, (ob_pj hu11 (ob_pj hu8 hajq))⟩ rfl [] (List.Perm.of_eq (List.append_nil _).symm) (Nat.le_of_ble_eq_true rfl) (Nat.le_of_ble_eq_true rfl)
                  · exact absurd hc224 (by omega)
            · exact absurd hc176 (by omega)
    · exact absurd hc36 (by omega)
  · have hxb : xc_wat (lg L) (bw : Int) = none := xc_wat_o (by omega) hw3
    have hwB := ox_w_ran hg (sp_wat (gS (lg L)) (by omega) (gH (lg L)) bw hg.H (by omega) hw3)
    have hdb := sp_dg_lt (gH (lg L)) bw
    refine hv_aload_n C dL_waters_0 0 rfl ?_
    refine hv_iconst C dL_waters_1 (v := zI (2)) rfl ?_
    refine hv_iconst C dL_waters_2 (v := zI (0)) rfl ?_
    refine hv_iconst C dL_waters_3 (v := zI (0)) rfl ?_
    refine hv_iconst C dL_waters_4 (v := zI (0)) rfl ?_
    refine hz_callS (As := [.ref (a 0), .int (zI (2)), .int (zI (0)), .int (zI (0)), .int (zI (0))]) (rest := []) (wc := ob_W dA a L h) (wr := ob_W dA b L h9) C X (k_C_about_r l D dA sa hst a L h hJ hk0 (0) (by decide) (0) (0) haj) (va_cwS 5 C.1.2.2.2.2 (hw_S tw_m_RL_132 tw_t_L_call tw_n_RL tw_k_L_call) rfl rfl rfl (by decide +kernel) ⟨Nat.le_of_ble_eq_true rfl, Nat.le_of_ble_eq_true rfl⟩) (List.Perm.refl _) rfl rfl (Nat.le_of_ble_eq_true rfl) dL_waters_5 ⟨Nat.le_of_ble_eq_true rfl, Nat.le_of_ble_eq_true rfl⟩ (fun u13 hu13 => ?_)
    have haj13 := ob_pj hu13 haj
    refine hv_eqst (st' := [.int (zI (an_about L (0)))]) rfl ?_
    refine hv_topi (y := zI (lg L 0)) (by rw [show an_about L (0) = lg L 0 from an_abo0 L]) ?_
    refine hv_istore_n C dL_waters_8 (lw := [(3, .int (zI (lg L 0))), (0, .ref (a 0)), (1, .ref (b 0)), (2, .int (zI (x)))]) (by decide) rfl ?_
    refine hv_aload_n C dL_waters_9 1 rfl ?_
    refine hv_callV (As := []) (rest := []) (wc := ob_W dA a L u13) (wr := ob_W dA b L h9) C (k_O_worth l D dA a L u13 hJ hu13.1 haj13) (cwV 0 C.1.2.2.2.2 (hw_V tw_m_RL_149 tw_i_X8_worth tw_s_X8_worth tw_n_RX8 tw_k_X8_worth) rfl rfl rfl (by decide +kernel) ⟨Nat.le_of_ble_eq_true rfl, Nat.le_of_ble_eq_true rfl⟩) (List.Perm.refl _) rfl 0 6 rfl rfl rfl (Nat.le_of_ble_eq_true rfl) dL_waters_10 ⟨Nat.le_of_ble_eq_true rfl, Nat.le_of_ble_eq_true rfl⟩ (fun u14 hu14 => ?_)
    have haj14 := ob_pj hu14 haj13
    refine hv_eqst (st' := [.int (zI (100 + ox_w (lg L)))]) rfl ?_
    refine hv_istore C dL_waters_13 (lw := [(4, .int (zI (100 + ox_w (lg L)))), (3, .int (zI (lg L 0))), (0, .ref (a 0)), (1, .ref (b 0)), (2, .int (zI (x)))]) (by decide) rfl ?_
    refine hv_aload_n C dL_waters_15 2 rfl ?_
    refine hv_callV (As := []) (rest := []) (wc := ob_W dA a L u14) (wr := ob_W dA b L h9) C (k_O_bestWater l D dA a L u14 hJ hu14.1 haj14) (cwV 0 C.1.2.2.2.2 (hw_V tw_m_RL_164 tw_i_X8_bestWater tw_s_X8_bestWater tw_n_RX8 tw_k_X8_bestWater) rfl rfl rfl (by decide +kernel) ⟨Nat.le_of_ble_eq_true rfl, Nat.le_of_ble_eq_true rfl⟩) (List.Perm.refl _) rfl 0 6 rfl rfl rfl (Nat.le_of_ble_eq_true rfl) dL_waters_16 ⟨Nat.le_of_ble_eq_true rfl, Nat.le_of_ble_eq_true rfl⟩ (fun u15 hu15 => ?_)
    have haj15 := ob_pj hu15 haj14
    refine hv_eqst (st' := [.int (zI ((ox_bw (lg L) (gS (lg L))).1))]) rfl ?_
    refine hv_topi (y := zI ((bw : Int))) (by rw [show (ox_bw (lg L) (gS (lg L))).1 = (bw : Int) from hw2]) ?_
    refine hv_istore C dL_waters_19 (lw := [(5, .int (zI ((bw : Int)))), (4, .int (zI (100 + ox_w (lg L)))), (3, .int (zI (lg L 0))), (0, .ref (a 0)), (1, .ref (b 0)), (2, .int (zI (x)))]) (by decide) rfl ?_
    refine hv_iload C dL_waters_21 1 rfl ?_
    refine hv_istore C dL_waters_23 (lw := [(6, .int (zI (100 + ox_w (lg L)))), (5, .int (zI ((bw : Int)))), (4, .int (zI (100 + ox_w (lg L)))), (3, .int (zI (lg L 0))), (0, .ref (a 0)), (1, .ref (b 0)), (2, .int (zI (x)))]) (by decide) rfl ?_
    refine hv_iload_n C dL_waters_25 6 rfl ?_
    refine hv_iload_n C dL_waters_26 3 rfl ?_
    refine hv_irem C dL_waters_27 (z := zI ((ii : Int))) ((zI_ne0 (by omega)).mpr (by omega)) ((zI_rem (by omega)).trans (zI_c (by exact hii))) ?_
    refine hv_istore C dL_waters_28 (lw := [(7, .int (zI ((ii : Int)))), (6, .int (zI (100 + ox_w (lg L)))), (5, .int (zI ((bw : Int)))), (4, .int (zI (100 + ox_w (lg L)))), (3, .int (zI (lg L 0))), (0, .ref (a 0)), (1, .ref (b 0)), (2, .int (zI (x)))]) (by decide) rfl ?_
    refine hv_iconst C dL_waters_30 (v := zI (1)) rfl ?_
    refine hv_istore C dL_waters_31 (lw := [(8, .int (zI (1))), (7, .int (zI ((ii : Int)))), (6, .int (zI (100 + ox_w (lg L)))), (5, .int (zI ((bw : Int)))), (4, .int (zI (100 + ox_w (lg L)))), (3, .int (zI (lg L 0))), (0, .ref (a 0)), (1, .ref (b 0)), (2, .int (zI (x)))]) (by decide) rfl ?_
    refine hv_iload C dL_waters_33 3 rfl ?_
    refine hv_iconst C dL_waters_35 (v := zI (-1)) rfl ?_
    refine hv_icmp_eq C dL_waters_36 (tgt := 133) (by decide) (zI_eq (by omega)) (fun hc36 => ?_) (fun hc36 => ?_)
    · exact absurd hc36 (by omega)
    · refine hv_aload_n C dL_waters_39 6 rfl ?_
      refine hv_bipush C dL_waters_40 (v := zI (8)) (by decide +kernel) ?_
      refine hv_iload C dL_waters_42 3 rfl ?_
      refine hv_iconst C dL_waters_44 (v := zI (0)) rfl ?_
      refine hv_iconst C dL_waters_45 (v := zI (0)) rfl ?_
      refine hz_callS (As := [.ref (a 0), .int (zI (8)), .int (zI ((bw : Int))), .int (zI (0)), .int (zI (0))]) (rest := []) (wc := ob_W dA a L u15) (wr := ob_W dA b L h9) C X (k_C_water l D dA sa hst a L u15 hJ hu15.1 (bw : Int) (by omega) (0) (0)) (va_cwS 5 C.1.2.2.2.2 (hw_S tw_m_RL_132 tw_t_L_call tw_n_RL tw_k_L_call) rfl rfl rfl (by decide +kernel) ⟨Nat.le_of_ble_eq_true rfl, Nat.le_of_ble_eq_true rfl⟩) (List.Perm.refl _) rfl rfl (Nat.le_of_ble_eq_true rfl) dL_waters_46 ⟨Nat.le_of_ble_eq_true rfl, Nat.le_of_ble_eq_true rfl⟩ (fun u16 hu16 => ?_)
      have haj16 := ob_pj hu16 haj15
      refine hv_weq (ws' := ob_W dA a (ob_keep L (ox_wat (lg L) (bw : Int))) u16 ++ ob_W dA b L h9) (by rw [show st_water L (bw : Int) = ob_keep L (ox_wat (lg L) (bw : Int)) from st_wat_t (L := L) hxb]) ?_
      refine hv_eqst (st' := [.int (zI (an_water L (bw : Int)))]) rfl ?_
      refine hv_topi (y := zI ((sp_dg (gH (lg L)) bw : Int) + 1)) (by rw [show an_water L (bw : Int) = (sp_dg (gH (lg L)) bw : Int) + 1 from an_wat_t hJ (show (bw : Int) < lg L 0 from by omega) hw3]) ?_
      refine hv_callS (As := [.int (zI ((sp_dg (gH (lg L)) bw : Int) + 1))]) (rest := []) (wc := []) (wr := ob_W dA a (ob_keep L (ox_wat (lg L) (bw : Int))) u16 ++ ob_W dA b L h9) C (k_L_thrown_n l D dA ((sp_dg (gH (lg L)) bw : Int) + 1) (by omega)) (va_cwS 1 C.1.2.2.2.2 (hw_S tw_m_RL_195 tw_t_L_thrown tw_n_RL tw_k_L_thrown) rfl rfl rfl (by decide +kernel) ⟨Nat.le_of_ble_eq_true rfl, Nat.le_of_ble_eq_true rfl⟩) (List.Perm.of_eq (List.nil_append _).symm) rfl rfl (Nat.le_of_ble_eq_true rfl) dL_waters_49 ⟨Nat.le_of_ble_eq_true rfl, Nat.le_of_ble_eq_true rfl⟩ (fun _ _ => ?_)
      refine hv_weq (ws' := ob_W dA a (ob_keep L (ox_wat (lg L) (bw : Int))) u16 ++ ob_W dA b L h9) (List.nil_append _) ?_
      refine hv_eqst (st' := [.int (zI (0))]) rfl ?_
      refine hv_if_ne C dL_waters_52 (tgt := 75) (by decide) (zI_ne0 (by omega)) (fun hc52 => ?_) (fun hc52 => ?_)
      · exact absurd hc52 (by omega)
      · refine hv_aload_n C dL_waters_55 7 rfl ?_
        refine hv_bipush C dL_waters_56 (v := zI (8)) (by decide +kernel) ?_
        refine hv_iload C dL_waters_58 3 rfl ?_
        refine hv_iconst C dL_waters_60 (v := zI (0)) rfl ?_
        refine hv_iconst C dL_waters_61 (v := zI (0)) rfl ?_
        refine hz_callS (As := [.ref (b 0), .int (zI (8)), .int (zI ((bw : Int))), .int (zI (0)), .int (zI (0))]) (rest := []) (wc := ob_W dA b L h9) (wr := ob_W dA a (ob_keep L (ox_wat (lg L) (bw : Int))) u16) C X (k_C_water l D dA sa hst b L h9 hJ hk9 (bw : Int) (by omega) (0) (0)) (va_cwS 5 C.1.2.2.2.2 (hw_S tw_m_RL_132 tw_t_L_call tw_n_RL tw_k_L_call) rfl rfl rfl (by decide +kernel) ⟨Nat.le_of_ble_eq_true rfl, Nat.le_of_ble_eq_true rfl⟩) List.perm_append_comm rfl rfl (Nat.le_of_ble_eq_true rfl) dL_waters_62 ⟨Nat.le_of_ble_eq_true rfl, Nat.le_of_ble_eq_true rfl⟩ (fun u17 hu17 => ?_)
        have haj17 := ob_pj hu17 hajq
        refine hv_perm (ws' := ob_W dA a (ob_keep L (ox_wat (lg L) (bw : Int))) u16 ++ ob_W dA b (st_water L (bw : Int)) u17) List.perm_append_comm ?_
        refine hv_weq (ws' := ob_W dA a (ob_keep L (ox_wat (lg L) (bw : Int))) u16 ++ ob_W dA b (ob_keep L (ox_wat (lg L) (bw : Int))) u17) (by rw [show st_water L (bw : Int) = ob_keep L (ox_wat (lg L) (bw : Int)) from st_wat_t (L := L) hxb]) ?_
        refine hv_eqst (st' := [.int (zI (an_water L (bw : Int)))]) rfl ?_
        refine hv_topi (y := zI ((sp_dg (gH (lg L)) bw : Int) + 1)) (by rw [show an_water L (bw : Int) = (sp_dg (gH (lg L)) bw : Int) + 1 from an_wat_t hJ (show (bw : Int) < lg L 0 from by omega) hw3]) ?_
        refine hv_callS (As := [.int (zI ((sp_dg (gH (lg L)) bw : Int) + 1))]) (rest := []) (wc := []) (wr := ob_W dA a (ob_keep L (ox_wat (lg L) (bw : Int))) u16 ++ ob_W dA b (ob_keep L (ox_wat (lg L) (bw : Int))) u17) C (k_L_thrown_n l D dA ((sp_dg (gH (lg L)) bw : Int) + 1) (by omega)) (va_cwS 1 C.1.2.2.2.2 (hw_S tw_m_RL_195 tw_t_L_thrown tw_n_RL tw_k_L_thrown) rfl rfl rfl (by decide +kernel) ⟨Nat.le_of_ble_eq_true rfl, Nat.le_of_ble_eq_true rfl⟩) (List.Perm.of_eq (List.nil_append _).symm) rfl rfl (Nat.le_of_ble_eq_true rfl) dL_waters_65 ⟨Nat.le_of_ble_eq_true rfl, Nat.le_of_ble_eq_true rfl⟩ (fun _ _ => ?_)
        refine hv_weq (ws' := ob_W dA a (ob_keep L (ox_wat (lg L) (bw : Int))) u16 ++ ob_W dA b (ob_keep L (ox_wat (lg L) (bw : Int))) u17) (List.nil_append _) ?_
        refine hv_eqst (st' := [.int (zI (0))]) rfl ?_
        refine hv_if_ne C dL_waters_68 (tgt := 75) (by decide) (zI_ne0 (by omega)) (fun hc68 => ?_) (fun hc68 => ?_)
        · exact absurd hc68 (by omega)
        · refine hv_iconst C dL_waters_71 (v := zI (1)) rfl ?_
          refine hv_goto C dL_waters_72 (tgt := 76) (by decide) ?_
          refine hv_istore C dL_waters_76 (lw := [(8, .int (zI (1))), (7, .int (zI ((ii : Int)))), (6, .int (zI (100 + ox_w (lg L)))), (5, .int (zI ((bw : Int)))), (4, .int (zI (100 + ox_w (lg L)))), (3, .int (zI (lg L 0))), (0, .ref (a 0)), (1, .ref (b 0)), (2, .int (zI (x)))]) (by decide) rfl ?_
          refine hv_aload_n C dL_waters_78 6 rfl ?_
          refine hv_callV (As := []) (rest := []) (wc := ob_W dA a (ob_keep L (ox_wat (lg L) (bw : Int))) u16) (wr := ob_W dA b (ob_keep L (ox_wat (lg L) (bw : Int))) u17) C (k_O_worth l D dA a (ob_keep L (ox_wat (lg L) (bw : Int))) u16 (ob_J_keep hJ (WF_wat hg (xc_wat_n hg hxb))) hu16.1 (ob_pj hu16 haj15)) (cwV 0 C.1.2.2.2.2 (hw_V tw_m_RL_149 tw_i_X8_worth tw_s_X8_worth tw_n_RX8 tw_k_X8_worth) rfl rfl rfl (by decide +kernel) ⟨Nat.le_of_ble_eq_true rfl, Nat.le_of_ble_eq_true rfl⟩) (List.Perm.refl _) rfl 0 6 rfl rfl rfl (Nat.le_of_ble_eq_true rfl) dL_waters_79 ⟨Nat.le_of_ble_eq_true rfl, Nat.le_of_ble_eq_true rfl⟩ (fun u18 hu18 => ?_)
          have haj18 := ob_pj hu18 (ob_pj hu16 haj15)
          refine hv_eqst (st' := [.int (zI (100 + ox_w (lg (ob_keep L (ox_wat (lg L) (bw : Int))))))]) rfl ?_
          refine hv_topi (y := zI (100 + lg L 4 * ox_wo (lg L) (gH (lg L) + 4 ^ bw))) (by rw [show 100 + ox_w (lg (ob_keep L (ox_wat (lg L) (bw : Int)))) = 100 + lg L 4 * ox_wo (lg L) (gH (lg L) + 4 ^ bw) from rfl]) ?_
          refine hv_istore C dL_waters_82 (lw := [(6, .int (zI (100 + lg L 4 * ox_wo (lg L) (gH (lg L) + 4 ^ bw)))), (8, .int (zI (1))), (7, .int (zI ((ii : Int)))), (5, .int (zI ((bw : Int)))), (4, .int (zI (100 + ox_w (lg L)))), (3, .int (zI (lg L 0))), (0, .ref (a 0)), (1, .ref (b 0)), (2, .int (zI (x)))]) (by decide) rfl ?_
          refine hv_iload C dL_waters_84 1 rfl ?_
          refine hv_if_eq C dL_waters_86 (tgt := 130) (by decide) (zI_eq0 (by omega)) (fun hc86 => ?_) (fun hc86 => ?_)
          · exact absurd hc86 (by omega)
          · refine hv_iload C dL_waters_89 0 rfl ?_
            refine hv_iload C dL_waters_91 4 rfl ?_
            refine hv_icmp_le C dL_waters_93 (tgt := 130) (by decide) (zI_le (by omega)) (fun hc93 => ?_) (fun hc93 => ?_)
            · exact absurd hc93 (by omega)
            · refine hv_aload_n C dL_waters_96 6 rfl ?_
              refine hv_bipush C dL_waters_97 (v := zI (11)) (by decide +kernel) ?_
              refine hv_iconst C dL_waters_99 (v := zI (0)) rfl ?_
              refine hv_iconst C dL_waters_100 (v := zI (0)) rfl ?_
              refine hv_iconst C dL_waters_101 (v := zI (0)) rfl ?_
              refine hz_callS (As := [.ref (a 0), .int (zI (11)), .int (zI (0)), .int (zI (0)), .int (zI (0))]) (rest := []) (wc := ob_W dA a (ob_keep L (ox_wat (lg L) (bw : Int))) u18) (wr := ob_W dA b (ob_keep L (ox_wat (lg L) (bw : Int))) u17) C X (k_C_undo l D dA sa hst a (ob_keep L (ox_wat (lg L) (bw : Int))) u18 (ob_J_keep hJ (WF_wat hg (xc_wat_n hg hxb))) hu18.1 (0) (0) (0)) (va_cwS 5 C.1.2.2.2.2 (hw_S tw_m_RL_132 tw_t_L_call tw_n_RL tw_k_L_call) rfl rfl rfl (by decide +kernel) ⟨Nat.le_of_ble_eq_true rfl, Nat.le_of_ble_eq_true rfl⟩) (List.Perm.refl _) rfl rfl (Nat.le_of_ble_eq_true rfl) dL_waters_102 ⟨Nat.le_of_ble_eq_true rfl, Nat.le_of_ble_eq_true rfl⟩ (fun u19 hu19 => ?_)
              have haj19 := ob_pj hu19 haj18
              refine hv_weq (ws' := ob_W dA a (ob_un L) u19 ++ ob_W dA b (ob_keep L (ox_wat (lg L) (bw : Int))) u17) (by rw [show st_undo (ob_keep L (ox_wat (lg L) (bw : Int))) = ob_un L from ob_undo_keep L _]) ?_
              refine hv_eqst (st' := [.int (zI (an_undo (ob_keep L (ox_wat (lg L) (bw : Int)))))]) rfl ?_
              refine hv_topi (y := zI (((min (lsz L + 1) 14 - 1 : Nat) : Int))) (by rw [show an_undo (ob_keep L (ox_wat (lg L) (bw : Int))) = ((min (lsz L + 1) 14 - 1 : Nat) : Int) from an_undo_keep hJ _]) ?_
              refine hv_callS (As := [.int (zI (((min (lsz L + 1) 14 - 1 : Nat) : Int)))]) (rest := []) (wc := []) (wr := ob_W dA a (ob_un L) u19 ++ ob_W dA b (ob_keep L (ox_wat (lg L) (bw : Int))) u17) C (k_L_thrown_n l D dA ((min (lsz L + 1) 14 - 1 : Nat) : Int) (by omega)) (va_cwS 1 C.1.2.2.2.2 (hw_S tw_m_RL_195 tw_t_L_thrown tw_n_RL tw_k_L_thrown) rfl rfl rfl (by decide +kernel) ⟨Nat.le_of_ble_eq_true rfl, Nat.le_of_ble_eq_true rfl⟩) (List.Perm.of_eq (List.nil_append _).symm) rfl rfl (Nat.le_of_ble_eq_true rfl) dL_waters_105 ⟨Nat.le_of_ble_eq_true rfl, Nat.le_of_ble_eq_true rfl⟩ (fun _ _ => ?_)
              refine hv_weq (ws' := ob_W dA a (ob_un L) u19 ++ ob_W dA b (ob_keep L (ox_wat (lg L) (bw : Int))) u17) (List.nil_append _) ?_
              refine hv_eqst (st' := [.int (zI (0))]) rfl ?_
              refine hv_if_ne C dL_waters_108 (tgt := 130) (by decide) (zI_ne0 (by omega)) (fun hc108 => ?_) (fun hc108 => ?_)
              · exact absurd hc108 (by omega)
              · refine hv_aload_n C dL_waters_111 7 rfl ?_
                refine hv_bipush C dL_waters_112 (v := zI (11)) (by decide +kernel) ?_
                refine hv_iconst C dL_waters_114 (v := zI (0)) rfl ?_
                refine hv_iconst C dL_waters_115 (v := zI (0)) rfl ?_
                refine hv_iconst C dL_waters_116 (v := zI (0)) rfl ?_
                refine hz_callS (As := [.ref (b 0), .int (zI (11)), .int (zI (0)), .int (zI (0)), .int (zI (0))]) (rest := []) (wc := ob_W dA b (ob_keep L (ox_wat (lg L) (bw : Int))) u17) (wr := ob_W dA a (ob_un L) u19) C X (k_C_undo l D dA sa hst b (ob_keep L (ox_wat (lg L) (bw : Int))) u17 (ob_J_keep hJ (WF_wat hg (xc_wat_n hg hxb))) hu17.1 (0) (0) (0)) (va_cwS 5 C.1.2.2.2.2 (hw_S tw_m_RL_132 tw_t_L_call tw_n_RL tw_k_L_call) rfl rfl rfl (by decide +kernel) ⟨Nat.le_of_ble_eq_true rfl, Nat.le_of_ble_eq_true rfl⟩) List.perm_append_comm rfl rfl (Nat.le_of_ble_eq_true rfl) dL_waters_117 ⟨Nat.le_of_ble_eq_true rfl, Nat.le_of_ble_eq_true rfl⟩ (fun u20 hu20 => ?_)
                have haj20 := ob_pj hu20 (ob_pj hu17 hajq)
                refine hv_perm (ws' := ob_W dA a (ob_un L) u19 ++ ob_W dA b (st_undo (ob_keep L (ox_wat (lg L) (bw : Int)))) u20) List.perm_append_comm ?_
                refine hv_weq (ws' := ob_W dA a (ob_un L) u19 ++ ob_W dA b (ob_un L) u20) (by rw [show st_undo (ob_keep L (ox_wat (lg L) (bw : Int))) = ob_un L from ob_undo_keep L _]) ?_
                refine hv_eqst (st' := [.int (zI (an_undo (ob_keep L (ox_wat (lg L) (bw : Int)))))]) rfl ?_
                refine hv_topi (y := zI (((min (lsz L + 1) 14 - 1 : Nat) : Int))) (by rw [show an_undo (ob_keep L (ox_wat (lg L) (bw : Int))) = ((min (lsz L + 1) 14 - 1 : Nat) : Int) from an_undo_keep hJ _]) ?_
                refine hv_callS (As := [.int (zI (((min (lsz L + 1) 14 - 1 : Nat) : Int)))]) (rest := []) (wc := []) (wr := ob_W dA a (ob_un L) u19 ++ ob_W dA b (ob_un L) u20) C (k_L_thrown_n l D dA ((min (lsz L + 1) 14 - 1 : Nat) : Int) (by omega)) (va_cwS 1 C.1.2.2.2.2 (hw_S tw_m_RL_195 tw_t_L_thrown tw_n_RL tw_k_L_thrown) rfl rfl rfl (by decide +kernel) ⟨Nat.le_of_ble_eq_true rfl, Nat.le_of_ble_eq_true rfl⟩) (List.Perm.of_eq (List.nil_append _).symm) rfl rfl (Nat.le_of_ble_eq_true rfl) dL_waters_120 ⟨Nat.le_of_ble_eq_true rfl, Nat.le_of_ble_eq_true rfl⟩ (fun _ _ => ?_)
                refine hv_weq (ws' := ob_W dA a (ob_un L) u19 ++ ob_W dA b (ob_un L) u20) (List.nil_append _) ?_
                refine hv_eqst (st' := [.int (zI (0))]) rfl ?_
                refine hv_if_ne C dL_waters_123 (tgt := 130) (by decide) (zI_ne0 (by omega)) (fun hc123 => ?_) (fun hc123 => ?_)
                · exact absurd hc123 (by omega)
                · refine hv_iconst C dL_waters_126 (v := zI (1)) rfl ?_
                  refine hv_goto C dL_waters_127 (tgt := 131) (by decide) ?_
                  refine hv_istore C dL_waters_131 (lw := [(8, .int (zI (1))), (6, .int (zI (100 + lg L 4 * ox_wo (lg L) (gH (lg L) + 4 ^ bw)))), (7, .int (zI ((ii : Int)))), (5, .int (zI ((bw : Int)))), (4, .int (zI (100 + ox_w (lg L)))), (3, .int (zI (lg L 0))), (0, .ref (a 0)), (1, .ref (b 0)), (2, .int (zI (x)))]) (by decide) rfl ?_
                  rcases Classical.em (sp_dg (gH (lg L)) ii = 3) with hfull | hfull
                  · refine hv_aload_n C dL_waters_133 6 rfl ?_
                    refine hv_bipush C dL_waters_134 (v := zI (8)) (by decide +kernel) ?_
                    refine hv_iload C dL_waters_136 2 rfl ?_
                    refine hv_iconst C dL_waters_138 (v := zI (0)) rfl ?_
                    refine hv_iconst C dL_waters_139 (v := zI (0)) rfl ?_
                    refine hz_callS (As := [.ref (a 0), .int (zI (8)), .int (zI ((ii : Int))), .int (zI (0)), .int (zI (0))]) (rest := []) (wc := ob_W dA a (ob_un L) u19) (wr := ob_W dA b (ob_un L) u20) C X (k_R_water l D dA sa hst a (ob_un L) u19 (ob_J_un hJ) hu19.1 (ii : Int) (by omega) (0) (0) hx_ISE (xc_wat_x (g := lg L) (show (ii : Int) < lg L 0 from by omega) hfull)) (va_cwS 5 C.1.2.2.2.2 (hw_S tw_m_RL_132 tw_t_L_call tw_n_RL tw_k_L_call) rfl rfl rfl (by decide +kernel) ⟨Nat.le_of_ble_eq_true rfl, Nat.le_of_ble_eq_true rfl⟩) (List.Perm.refl _) rfl rfl (Nat.le_of_ble_eq_true rfl) dL_waters_140 ⟨Nat.le_of_ble_eq_true rfl, Nat.le_of_ble_eq_true rfl⟩ (fun u21 hu21 => ?_)
                    have haj21 := ob_pj hu21 (ob_pj hu19 haj18)
                    refine hv_eqst (st' := [.int (zI (ob_er hx_ISE))]) rfl ?_
                    refine hv_topi (y := zI (-9999003)) (by rw [ob_er_ISE]) ?_
                    refine hv_istore C dL_waters_143 (lw := [(9, .int (zI (-9999003))), (8, .int (zI (1))), (6, .int (zI (100 + lg L 4 * ox_wo (lg L) (gH (lg L) + 4 ^ bw)))), (7, .int (zI ((ii : Int)))), (5, .int (zI ((bw : Int)))), (4, .int (zI (100 + ox_w (lg L)))), (3, .int (zI (lg L 0))), (0, .ref (a 0)), (1, .ref (b 0)), (2, .int (zI (x)))]) (by decide) rfl ?_
                    refine hv_iload C dL_waters_145 1 rfl ?_
                    refine hv_if_eq C dL_waters_147 (tgt := 169) (by decide) (zI_eq0 (by omega)) (fun hc147 => ?_) (fun hc147 => ?_)
                    · exact absurd hc147 (by omega)
                    · refine hv_aload_n C dL_waters_150 8 rfl ?_
                      refine hv_bipush C dL_waters_151 (v := zI (8)) (by decide +kernel) ?_
                      refine hv_iload C dL_waters_153 3 rfl ?_
                      refine hv_iconst C dL_waters_155 (v := zI (0)) rfl ?_
                      refine hv_iconst C dL_waters_156 (v := zI (0)) rfl ?_
                      refine hz_callS (As := [.ref (b 0), .int (zI (8)), .int (zI ((ii : Int))), .int (zI (0)), .int (zI (0))]) (rest := []) (wc := ob_W dA b (ob_un L) u20) (wr := ob_W dA a (ob_un L) u21) C X (k_R_water l D dA sa hst b (ob_un L) u20 (ob_J_un hJ) hu20.1 (ii : Int) (by omega) (0) (0) hx_ISE (xc_wat_x (g := lg L) (show (ii : Int) < lg L 0 from by omega) hfull)) (va_cwS 5 C.1.2.2.2.2 (hw_S tw_m_RL_132 tw_t_L_call tw_n_RL tw_k_L_call) rfl rfl rfl (by decide +kernel) ⟨Nat.le_of_ble_eq_true rfl, Nat.le_of_ble_eq_true rfl⟩) List.perm_append_comm rfl rfl (Nat.le_of_ble_eq_true rfl) dL_waters_157 ⟨Nat.le_of_ble_eq_true rfl, Nat.le_of_ble_eq_true rfl⟩ (fun u22 hu22 => ?_)
                      have haj22 := ob_pj hu22 (ob_pj hu20 (ob_pj hu17 hajq))
                      refine hv_perm (ws' := ob_W dA a (ob_un L) u21 ++ ob_W dA b (ob_un L) u22) List.perm_append_comm ?_
                      refine hv_eqst (st' := [.int (zI (ob_er hx_ISE))]) rfl ?_
                      refine hv_topi (y := zI (-9999003)) (by rw [ob_er_ISE]) ?_
                      refine hv_iload C dL_waters_160 0 rfl ?_
                      refine hv_icmp_ne C dL_waters_162 (tgt := 169) (by decide) Iff.rfl (fun hc162 => ?_) (fun hc162 => ?_)
                      · exact absurd hc162 (by exact fun q => q rfl)
                      · refine hv_iconst C dL_waters_165 (v := zI (1)) rfl ?_
                        refine hv_goto C dL_waters_166 (tgt := 170) (by decide) ?_
                        refine hv_istore C dL_waters_170 (lw := [(8, .int (zI (1))), (9, .int (zI (-9999003))), (6, .int (zI (100 + lg L 4 * ox_wo (lg L) (gH (lg L) + 4 ^ bw)))), (7, .int (zI ((ii : Int)))), (5, .int (zI ((bw : Int)))), (4, .int (zI (100 + ox_w (lg L)))), (3, .int (zI (lg L 0))), (0, .ref (a 0)), (1, .ref (b 0)), (2, .int (zI (x)))]) (by decide) rfl ?_
                        refine hv_iload C dL_waters_172 1 rfl ?_
                        refine hv_ldc C dL_waters_174 (hw_c tw_o_RL_33) ?_
                        refine hv_topi (y := zI (-9999003)) (by decide +kernel) ?_
                        refine hv_icmp_ne C dL_waters_176 (tgt := 203) (by decide) (zI_ne (by omega)) (fun hc176 => ?_) (fun hc176 => ?_)
                        · exact absurd hc176 (by omega)
                        · refine hv_iload C dL_waters_179 0 rfl ?_
                          refine hv_if_eq C dL_waters_181 (tgt := 201) (by decide) (zI_eq0 (by omega)) (fun hc181 => ?_) (fun hc181 => ?_)
                          · exact absurd hc181 (by omega)
                          · refine hv_aload_n C dL_waters_184 7 rfl ?_
                            refine hv_iconst C dL_waters_185 (v := zI (3)) rfl ?_
                            refine hv_iload C dL_waters_186 3 rfl ?_
                            refine hv_iconst C dL_waters_188 (v := zI (0)) rfl ?_
                            refine hv_iconst C dL_waters_189 (v := zI (0)) rfl ?_
                            refine hz_callS (As := [.ref (a 0), .int (zI (3)), .int (zI ((ii : Int))), .int (zI (0)), .int (zI (0))]) (rest := []) (wc := ob_W dA a (ob_un L) u21) (wr := ob_W dA b (ob_un L) u22) C X (k_C_leaves l D dA sa hst a (ob_un L) u21 (ob_J_un hJ) hu21.1 (ii : Int) (by omega) (0) (0)) (va_cwS 5 C.1.2.2.2.2 (hw_S tw_m_RL_132 tw_t_L_call tw_n_RL tw_k_L_call) rfl rfl rfl (by decide +kernel) ⟨Nat.le_of_ble_eq_true rfl, Nat.le_of_ble_eq_true rfl⟩) (List.Perm.refl _) rfl rfl (Nat.le_of_ble_eq_true rfl) dL_waters_190 ⟨Nat.le_of_ble_eq_true rfl, Nat.le_of_ble_eq_true rfl⟩ (fun u23 hu23 => ?_)
                            have haj23 := ob_pj hu23 haj21
                            refine hv_eqst (st' := [.int (zI (an_leaves (ob_un L) (ii : Int)))]) rfl ?_
                            refine hv_topi (y := zI (3)) (by rw [show an_leaves (ob_un L) (ii : Int) = 3 from (an_lea ii rfl (show (ii : Int) < lg L 0 from by omega)).trans (by show ((sp_dg (gH (lg L)) ii : Nat) : Int) = 3; omega)]) ?_
                            refine hv_iconst C dL_waters_193 (v := zI (3)) rfl ?_
                            refine hv_icmp_ne C dL_waters_194 (tgt := 201) (by decide) (zI_ne (by omega)) (fun hc194 => ?_) (fun hc194 => ?_)
                            · exact absurd hc194 (by omega)
                            · refine hv_iconst C dL_waters_197 (v := zI (1)) rfl ?_
                              refine hv_goto C dL_waters_198 (tgt := 202) (by decide) ?_
                              exact hv_iret C M dL_waters_202 rfl zB_n1 (ob_un L, u23, u22) ⟨⟨ob_J_un hJ, ob_A_un hJ hB, rfl⟩, ⟨hu23.1, haj23⟩, hu22.1, haj22⟩ rfl [] (List.Perm.of_eq (List.append_nil _).symm) (Nat.le_of_ble_eq_true rfl) (Nat.le_of_ble_eq_true rfl)
                  · have hxi : xc_wat (lg L) (ii : Int) = none := xc_wat_o (by omega) hfull
                    have hwi := ox_w_ran hg (sp_wat (gS (lg L)) (by omega) (gH (lg L)) ii hg.H (by omega) hfull)
                    have hdi := sp_dg_lt (gH (lg L)) ii
                    have hbi := hbw2.2 ii hii2 hfull
                    refine hv_aload_n C dL_waters_133 6 rfl ?_
                    refine hv_bipush C dL_waters_134 (v := zI (8)) (by decide +kernel) ?_
                    refine hv_iload C dL_waters_136 2 rfl ?_
                    refine hv_iconst C dL_waters_138 (v := zI (0)) rfl ?_
                    refine hv_iconst C dL_waters_139 (v := zI (0)) rfl ?_
                    refine hz_callS (As := [.ref (a 0), .int (zI (8)), .int (zI ((ii : Int))), .int (zI (0)), .int (zI (0))]) (rest := []) (wc := ob_W dA a (ob_un L) u19) (wr := ob_W dA b (ob_un L) u20) C X (k_C_water l D dA sa hst a (ob_un L) u19 (ob_J_un hJ) hu19.1 (ii : Int) (by omega) (0) (0)) (va_cwS 5 C.1.2.2.2.2 (hw_S tw_m_RL_132 tw_t_L_call tw_n_RL tw_k_L_call) rfl rfl rfl (by decide +kernel) ⟨Nat.le_of_ble_eq_true rfl, Nat.le_of_ble_eq_true rfl⟩) (List.Perm.refl _) rfl rfl (Nat.le_of_ble_eq_true rfl) dL_waters_140 ⟨Nat.le_of_ble_eq_true rfl, Nat.le_of_ble_eq_true rfl⟩ (fun u24 hu24 => ?_)
                    have haj24 := ob_pj hu24 (ob_pj hu19 haj18)
                    refine hv_weq (ws' := ob_W dA a (ob_keep (ob_un L) (ox_wat (lg L) (ii : Int))) u24 ++ ob_W dA b (ob_un L) u20) (by rw [show st_water (ob_un L) (ii : Int) = ob_keep (ob_un L) (ox_wat (lg L) (ii : Int)) from st_wat_t (L := ob_un L) hxi]) ?_
                    refine hv_eqst (st' := [.int (zI (an_water (ob_un L) (ii : Int)))]) rfl ?_
                    refine hv_topi (y := zI ((sp_dg (gH (lg L)) ii : Int) + 1)) (by rw [show an_water (ob_un L) (ii : Int) = (sp_dg (gH (lg L)) ii : Int) + 1 from an_wat_t (ob_J_un hJ) (show (ii : Int) < lg L 0 from by omega) hfull]) ?_
                    refine hv_istore C dL_waters_143 (lw := [(9, .int (zI ((sp_dg (gH (lg L)) ii : Int) + 1))), (8, .int (zI (1))), (6, .int (zI (100 + lg L 4 * ox_wo (lg L) (gH (lg L) + 4 ^ bw)))), (7, .int (zI ((ii : Int)))), (5, .int (zI ((bw : Int)))), (4, .int (zI (100 + ox_w (lg L)))), (3, .int (zI (lg L 0))), (0, .ref (a 0)), (1, .ref (b 0)), (2, .int (zI (x)))]) (by decide) rfl ?_
                    refine hv_iload C dL_waters_145 1 rfl ?_
                    refine hv_if_eq C dL_waters_147 (tgt := 169) (by decide) (zI_eq0 (by omega)) (fun hc147 => ?_) (fun hc147 => ?_)
                    · exact absurd hc147 (by omega)
                    · refine hv_aload_n C dL_waters_150 8 rfl ?_
                      refine hv_bipush C dL_waters_151 (v := zI (8)) (by decide +kernel) ?_
                      refine hv_iload C dL_waters_153 3 rfl ?_
                      refine hv_iconst C dL_waters_155 (v := zI (0)) rfl ?_
                      refine hv_iconst C dL_waters_156 (v := zI (0)) rfl ?_
                      refine hz_callS (As := [.ref (b 0), .int (zI (8)), .int (zI ((ii : Int))), .int (zI (0)), .int (zI (0))]) (rest := []) (wc := ob_W dA b (ob_un L) u20) (wr := ob_W dA a (ob_keep (ob_un L) (ox_wat (lg L) (ii : Int))) u24) C X (k_C_water l D dA sa hst b (ob_un L) u20 (ob_J_un hJ) hu20.1 (ii : Int) (by omega) (0) (0)) (va_cwS 5 C.1.2.2.2.2 (hw_S tw_m_RL_132 tw_t_L_call tw_n_RL tw_k_L_call) rfl rfl rfl (by decide +kernel) ⟨Nat.le_of_ble_eq_true rfl, Nat.le_of_ble_eq_true rfl⟩) List.perm_append_comm rfl rfl (Nat.le_of_ble_eq_true rfl) dL_waters_157 ⟨Nat.le_of_ble_eq_true rfl, Nat.le_of_ble_eq_true rfl⟩ (fun u25 hu25 => ?_)
                      have haj25 := ob_pj hu25 (ob_pj hu20 (ob_pj hu17 hajq))
                      refine hv_perm (ws' := ob_W dA a (ob_keep (ob_un L) (ox_wat (lg L) (ii : Int))) u24 ++ ob_W dA b (st_water (ob_un L) (ii : Int)) u25) List.perm_append_comm ?_
                      refine hv_weq (ws' := ob_W dA a (ob_keep (ob_un L) (ox_wat (lg L) (ii : Int))) u24 ++ ob_W dA b (ob_keep (ob_un L) (ox_wat (lg L) (ii : Int))) u25) (by rw [show st_water (ob_un L) (ii : Int) = ob_keep (ob_un L) (ox_wat (lg L) (ii : Int)) from st_wat_t (L := ob_un L) hxi]) ?_
                      refine hv_eqst (st' := [.int (zI (an_water (ob_un L) (ii : Int)))]) rfl ?_
                      refine hv_topi (y := zI ((sp_dg (gH (lg L)) ii : Int) + 1)) (by rw [show an_water (ob_un L) (ii : Int) = (sp_dg (gH (lg L)) ii : Int) + 1 from an_wat_t (ob_J_un hJ) (show (ii : Int) < lg L 0 from by omega) hfull]) ?_
                      refine hv_iload C dL_waters_160 0 rfl ?_
                      refine hv_icmp_ne C dL_waters_162 (tgt := 169) (by decide) Iff.rfl (fun hc162 => ?_) (fun hc162 => ?_)
                      · exact absurd hc162 (by exact fun q => q rfl)
                      · refine hv_iconst C dL_waters_165 (v := zI (1)) rfl ?_
                        refine hv_goto C dL_waters_166 (tgt := 170) (by decide) ?_
                        refine hv_istore C dL_waters_170 (lw := [(8, .int (zI (1))), (9, .int (zI ((sp_dg (gH (lg L)) ii : Int) + 1))), (6, .int (zI (100 + lg L 4 * ox_wo (lg L) (gH (lg L) + 4 ^ bw)))), (7, .int (zI ((ii : Int)))), (5, .int (zI ((bw : Int)))), (4, .int (zI (100 + ox_w (lg L)))), (3, .int (zI (lg L 0))), (0, .ref (a 0)), (1, .ref (b 0)), (2, .int (zI (x)))]) (by decide) rfl ?_
                        refine hv_iload C dL_waters_172 1 rfl ?_
                        refine hv_ldc C dL_waters_174 (hw_c tw_o_RL_33) ?_
                        refine hv_topi (y := zI (-9999003)) (by decide +kernel) ?_
                        refine hv_icmp_ne C dL_waters_176 (tgt := 203) (by decide) (zI_ne (by omega)) (fun hc176 => ?_) (fun hc176 => ?_)
                        · refine hv_aload_n C dL_waters_203 7 rfl ?_
                          refine hv_callV (As := []) (rest := []) (wc := ob_W dA a (ob_keep (ob_un L) (ox_wat (lg L) (ii : Int))) u24) (wr := ob_W dA b (ob_keep (ob_un L) (ox_wat (lg L) (ii : Int))) u25) C (k_O_worth l D dA a (ob_keep (ob_un L) (ox_wat (lg L) (ii : Int))) u24 (ob_J_keep (ob_J_un hJ) (WF_wat hg (xc_wat_n hg hxi))) hu24.1 (ob_pj hu24 (ob_pj hu19 haj18))) (cwV 0 C.1.2.2.2.2 (hw_V tw_m_RL_149 tw_i_X8_worth tw_s_X8_worth tw_n_RX8 tw_k_X8_worth) rfl rfl rfl (by decide +kernel) ⟨Nat.le_of_ble_eq_true rfl, Nat.le_of_ble_eq_true rfl⟩) (List.Perm.refl _) rfl 0 6 rfl rfl rfl (Nat.le_of_ble_eq_true rfl) dL_waters_204 ⟨Nat.le_of_ble_eq_true rfl, Nat.le_of_ble_eq_true rfl⟩ (fun u26 hu26 => ?_)
                          have haj26 := ob_pj hu26 (ob_pj hu24 (ob_pj hu19 haj18))
                          refine hv_eqst (st' := [.int (zI (100 + ox_w (lg (ob_keep (ob_un L) (ox_wat (lg L) (ii : Int))))))]) rfl ?_
                          refine hv_topi (y := zI (100 + lg L 4 * ox_wo (lg L) (gH (lg L) + 4 ^ ii))) (by rw [show 100 + ox_w (lg (ob_keep (ob_un L) (ox_wat (lg L) (ii : Int)))) = 100 + lg L 4 * ox_wo (lg L) (gH (lg L) + 4 ^ ii) from rfl]) ?_
                          refine hv_istore C dL_waters_207 (lw := [(10, .int (zI (100 + lg L 4 * ox_wo (lg L) (gH (lg L) + 4 ^ ii)))), (8, .int (zI (1))), (9, .int (zI ((sp_dg (gH (lg L)) ii : Int) + 1))), (6, .int (zI (100 + lg L 4 * ox_wo (lg L) (gH (lg L) + 4 ^ bw)))), (7, .int (zI ((ii : Int)))), (5, .int (zI ((bw : Int)))), (4, .int (zI (100 + ox_w (lg L)))), (3, .int (zI (lg L 0))), (0, .ref (a 0)), (1, .ref (b 0)), (2, .int (zI (x)))]) (by decide) rfl ?_
                          refine hv_iload C dL_waters_209 1 rfl ?_
                          refine hv_if_eq C dL_waters_211 (tgt := 284) (by decide) (zI_eq0 (by omega)) (fun hc211 => ?_) (fun hc211 => ?_)
                          · exact absurd hc211 (by omega)
                          · refine hv_iload C dL_waters_214 0 rfl ?_
                            refine hv_iload C dL_waters_216 3 rfl ?_
                            refine hv_icmp_gt C dL_waters_218 (tgt := 284) (by decide) (zI_lt (by omega)) (fun hc218 => ?_) (fun hc218 => ?_)
                            · exact absurd hc218 (by omega)
                            · refine hv_iload C dL_waters_221 5 rfl ?_
                              refine hv_iconst C dL_waters_223 (v := zI (-1)) rfl ?_
                              refine hv_icmp_eq C dL_waters_224 (tgt := 241) (by decide) (zI_eq (by omega)) (fun hc224 => ?_) (fun hc224 => ?_)
                              · exact absurd hc224 (by omega)
                              · refine hv_iload C dL_waters_227 0 rfl ?_
                                refine hv_iload C dL_waters_229 3 rfl ?_
                                refine hv_icmp_lt C dL_waters_231 (tgt := 241) (by decide) (zI_lt (by omega)) (fun hc231 => ?_) (fun hc231 => ?_)
                                · refine hv_aload_n C dL_waters_241 8 rfl ?_
                                  refine hv_bipush C dL_waters_242 (v := zI (11)) (by decide +kernel) ?_
                                  refine hv_iconst C dL_waters_244 (v := zI (0)) rfl ?_
                                  refine hv_iconst C dL_waters_245 (v := zI (0)) rfl ?_
                                  refine hv_iconst C dL_waters_246 (v := zI (0)) rfl ?_
                                  refine hz_callS (As := [.ref (a 0), .int (zI (11)), .int (zI (0)), .int (zI (0)), .int (zI (0))]) (rest := []) (wc := ob_W dA a (ob_keep (ob_un L) (ox_wat (lg L) (ii : Int))) u26) (wr := ob_W dA b (ob_keep (ob_un L) (ox_wat (lg L) (ii : Int))) u25) C X (k_C_undo l D dA sa hst a (ob_keep (ob_un L) (ox_wat (lg L) (ii : Int))) u26 (ob_J_keep (ob_J_un hJ) (WF_wat hg (xc_wat_n hg hxi))) hu26.1 (0) (0) (0)) (va_cwS 5 C.1.2.2.2.2 (hw_S tw_m_RL_132 tw_t_L_call tw_n_RL tw_k_L_call) rfl rfl rfl (by decide +kernel) ⟨Nat.le_of_ble_eq_true rfl, Nat.le_of_ble_eq_true rfl⟩) (List.Perm.refl _) rfl rfl (Nat.le_of_ble_eq_true rfl) dL_waters_247 ⟨Nat.le_of_ble_eq_true rfl, Nat.le_of_ble_eq_true rfl⟩ (fun u27 hu27 => ?_)
                                  have haj27 := ob_pj hu27 haj26
                                  refine hv_weq (ws' := ob_W dA a (ob_un (ob_un L)) u27 ++ ob_W dA b (ob_keep (ob_un L) (ox_wat (lg L) (ii : Int))) u25) (by rw [show st_undo (ob_keep (ob_un L) (ox_wat (lg L) (ii : Int))) = ob_un (ob_un L) from ob_undo_keep (ob_un L) _]) ?_
                                  refine hv_eqst (st' := [.int (zI (an_undo (ob_keep (ob_un L) (ox_wat (lg L) (ii : Int)))))]) rfl ?_
                                  refine hv_topi (y := zI (((min (lsz (ob_un L) + 1) 14 - 1 : Nat) : Int))) (by rw [show an_undo (ob_keep (ob_un L) (ox_wat (lg L) (ii : Int))) = ((min (lsz (ob_un L) + 1) 14 - 1 : Nat) : Int) from an_undo_keep (ob_J_un hJ) _]) ?_
                                  refine hv_callS (As := [.int (zI (((min (lsz (ob_un L) + 1) 14 - 1 : Nat) : Int)))]) (rest := []) (wc := []) (wr := ob_W dA a (ob_un (ob_un L)) u27 ++ ob_W dA b (ob_keep (ob_un L) (ox_wat (lg L) (ii : Int))) u25) C (k_L_thrown_n l D dA ((min (lsz (ob_un L) + 1) 14 - 1 : Nat) : Int) (by omega)) (va_cwS 1 C.1.2.2.2.2 (hw_S tw_m_RL_195 tw_t_L_thrown tw_n_RL tw_k_L_thrown) rfl rfl rfl (by decide +kernel) ⟨Nat.le_of_ble_eq_true rfl, Nat.le_of_ble_eq_true rfl⟩) (List.Perm.of_eq (List.nil_append _).symm) rfl rfl (Nat.le_of_ble_eq_true rfl) dL_waters_250 ⟨Nat.le_of_ble_eq_true rfl, Nat.le_of_ble_eq_true rfl⟩ (fun _ _ => ?_)
                                  refine hv_weq (ws' := ob_W dA a (ob_un (ob_un L)) u27 ++ ob_W dA b (ob_keep (ob_un L) (ox_wat (lg L) (ii : Int))) u25) (List.nil_append _) ?_
                                  refine hv_eqst (st' := [.int (zI (0))]) rfl ?_
                                  refine hv_if_ne C dL_waters_253 (tgt := 284) (by decide) (zI_ne0 (by omega)) (fun hc253 => ?_) (fun hc253 => ?_)
                                  · exact absurd hc253 (by omega)
                                  · refine hv_aload_n C dL_waters_256 9 rfl ?_
                                    refine hv_bipush C dL_waters_257 (v := zI (11)) (by decide +kernel) ?_
                                    refine hv_iconst C dL_waters_259 (v := zI (0)) rfl ?_
                                    refine hv_iconst C dL_waters_260 (v := zI (0)) rfl ?_
                                    refine hv_iconst C dL_waters_261 (v := zI (0)) rfl ?_
                                    refine hz_callS (As := [.ref (b 0), .int (zI (11)), .int (zI (0)), .int (zI (0)), .int (zI (0))]) (rest := []) (wc := ob_W dA b (ob_keep (ob_un L) (ox_wat (lg L) (ii : Int))) u25) (wr := ob_W dA a (ob_un (ob_un L)) u27) C X (k_C_undo l D dA sa hst b (ob_keep (ob_un L) (ox_wat (lg L) (ii : Int))) u25 (ob_J_keep (ob_J_un hJ) (WF_wat hg (xc_wat_n hg hxi))) hu25.1 (0) (0) (0)) (va_cwS 5 C.1.2.2.2.2 (hw_S tw_m_RL_132 tw_t_L_call tw_n_RL tw_k_L_call) rfl rfl rfl (by decide +kernel) ⟨Nat.le_of_ble_eq_true rfl, Nat.le_of_ble_eq_true rfl⟩) List.perm_append_comm rfl rfl (Nat.le_of_ble_eq_true rfl) dL_waters_262 ⟨Nat.le_of_ble_eq_true rfl, Nat.le_of_ble_eq_true rfl⟩ (fun u28 hu28 => ?_)
                                    have haj28 := ob_pj hu28 (ob_pj hu25 (ob_pj hu20 (ob_pj hu17 hajq)))
                                    refine hv_perm (ws' := ob_W dA a (ob_un (ob_un L)) u27 ++ ob_W dA b (st_undo (ob_keep (ob_un L) (ox_wat (lg L) (ii : Int)))) u28) List.perm_append_comm ?_
                                    refine hv_weq (ws' := ob_W dA a (ob_un (ob_un L)) u27 ++ ob_W dA b (ob_un (ob_un L)) u28) (by rw [show st_undo (ob_keep (ob_un L) (ox_wat (lg L) (ii : Int))) = ob_un (ob_un L) from ob_undo_keep (ob_un L) _]) ?_
                                    refine hv_eqst (st' := [.int (zI (an_undo (ob_keep (ob_un L) (ox_wat (lg L) (ii : Int)))))]) rfl ?_
                                    refine hv_topi (y := zI (((min (lsz (ob_un L) + 1) 14 - 1 : Nat) : Int))) (by rw [show an_undo (ob_keep (ob_un L) (ox_wat (lg L) (ii : Int))) = ((min (lsz (ob_un L) + 1) 14 - 1 : Nat) : Int) from an_undo_keep (ob_J_un hJ) _]) ?_
                                    refine hv_callS (As := [.int (zI (((min (lsz (ob_un L) + 1) 14 - 1 : Nat) : Int)))]) (rest := []) (wc := []) (wr := ob_W dA a (ob_un (ob_un L)) u27 ++ ob_W dA b (ob_un (ob_un L)) u28) C (k_L_thrown_n l D dA ((min (lsz (ob_un L) + 1) 14 - 1 : Nat) : Int) (by omega)) (va_cwS 1 C.1.2.2.2.2 (hw_S tw_m_RL_195 tw_t_L_thrown tw_n_RL tw_k_L_thrown) rfl rfl rfl (by decide +kernel) ⟨Nat.le_of_ble_eq_true rfl, Nat.le_of_ble_eq_true rfl⟩) (List.Perm.of_eq (List.nil_append _).symm) rfl rfl (Nat.le_of_ble_eq_true rfl) dL_waters_265 ⟨Nat.le_of_ble_eq_true rfl, Nat.le_of_ble_eq_true rfl⟩ (fun _ _ => ?_)
                                    refine hv_weq (ws' := ob_W dA a (ob_un (ob_un L)) u27 ++ ob_W dA b (ob_un (ob_un L)) u28) (List.nil_append _) ?_
                                    refine hv_eqst (st' := [.int (zI (0))]) rfl ?_
                                    refine hv_if_ne C dL_waters_268 (tgt := 284) (by decide) (zI_ne0 (by omega)) (fun hc268 => ?_) (fun hc268 => ?_)
                                    · exact absurd hc268 (by omega)
                                    · refine hv_aload_n C dL_waters_271 8 rfl ?_
                                      refine hv_callV (As := []) (rest := []) (wc := ob_W dA a (ob_un (ob_un L)) u27) (wr := ob_W dA b (ob_un (ob_un L)) u28) C (k_O_worth l D dA a (ob_un (ob_un L)) u27 (ob_J_un (ob_J_un hJ)) hu27.1 (ob_pj hu27 haj26)) (cwV 0 C.1.2.2.2.2 (hw_V tw_m_RL_149 tw_i_X8_worth tw_s_X8_worth tw_n_RX8 tw_k_X8_worth) rfl rfl rfl (by decide +kernel) ⟨Nat.le_of_ble_eq_true rfl, Nat.le_of_ble_eq_true rfl⟩) (List.Perm.refl _) rfl 0 6 rfl rfl rfl (Nat.le_of_ble_eq_true rfl) dL_waters_272 ⟨Nat.le_of_ble_eq_true rfl, Nat.le_of_ble_eq_true rfl⟩ (fun u29 hu29 => ?_)
                                      have haj29 := ob_pj hu29 (ob_pj hu27 haj26)
                                      refine hv_eqst (st' := [.int (zI (100 + ox_w (lg (ob_un (ob_un L)))))]) rfl ?_
                                      refine hv_topi (y := zI (100 + ox_w (lg L))) (by rw [show 100 + ox_w (lg (ob_un (ob_un L))) = 100 + ox_w (lg L) from rfl]) ?_
                                      refine hv_iload C dL_waters_275 6 rfl ?_
                                      refine hv_icmp_ne C dL_waters_277 (tgt := 284) (by decide) Iff.rfl (fun hc277 => ?_) (fun hc277 => ?_)
                                      · exact absurd hc277 (by exact fun q => q rfl)
                                      · refine hv_iconst C dL_waters_280 (v := zI (1)) rfl ?_
                                        refine hv_goto C dL_waters_281 (tgt := 285) (by decide) ?_
                                        exact hv_iret C M dL_waters_285 rfl zB_n1 (ob_un (ob_un L), u29, u28) ⟨⟨ob_J_un (ob_J_un hJ), ob_A_un (ob_J_un hJ) (ob_A_un hJ hB), rfl⟩, ⟨hu29.1, haj29⟩, hu28.1, (ob_pj hu28 (ob_pj hu25 (ob_pj hu20 (ob_pj hu17 hajq))))⟩ rfl [] (List.Perm.of_eq (List.append_nil _).symm) (Nat.le_of_ble_eq_true rfl) (Nat.le_of_ble_eq_true rfl)
                                · refine hv_iload C dL_waters_234 4 rfl ?_
                                  refine hv_iload C dL_waters_236 5 rfl ?_
                                  refine hv_icmp_lt C dL_waters_238 (tgt := 284) (by decide) (zI_lt (by omega)) (fun hc238 => ?_) (fun hc238 => ?_)
                                  · exact absurd hc238 (by omega)
                                  · refine hv_aload_n C dL_waters_241 8 rfl ?_
                                    refine hv_bipush C dL_waters_242 (v := zI (11)) (by decide +kernel) ?_
                                    refine hv_iconst C dL_waters_244 (v := zI (0)) rfl ?_
                                    refine hv_iconst C dL_waters_245 (v := zI (0)) rfl ?_
                                    refine hv_iconst C dL_waters_246 (v := zI (0)) rfl ?_
                                    refine hz_callS (As := [.ref (a 0), .int (zI (11)), .int (zI (0)), .int (zI (0)), .int (zI (0))]) (rest := []) (wc := ob_W dA a (ob_keep (ob_un L) (ox_wat (lg L) (ii : Int))) u26) (wr := ob_W dA b (ob_keep (ob_un L) (ox_wat (lg L) (ii : Int))) u25) C X (k_C_undo l D dA sa hst a (ob_keep (ob_un L) (ox_wat (lg L) (ii : Int))) u26 (ob_J_keep (ob_J_un hJ) (WF_wat hg (xc_wat_n hg hxi))) hu26.1 (0) (0) (0)) (va_cwS 5 C.1.2.2.2.2 (hw_S tw_m_RL_132 tw_t_L_call tw_n_RL tw_k_L_call) rfl rfl rfl (by decide +kernel) ⟨Nat.le_of_ble_eq_true rfl, Nat.le_of_ble_eq_true rfl⟩) (List.Perm.refl _) rfl rfl (Nat.le_of_ble_eq_true rfl) dL_waters_247 ⟨Nat.le_of_ble_eq_true rfl, Nat.le_of_ble_eq_true rfl⟩ (fun u30 hu30 => ?_)
                                    have haj30 := ob_pj hu30 haj26
                                    refine hv_weq (ws' := ob_W dA a (ob_un (ob_un L)) u30 ++ ob_W dA b (ob_keep (ob_un L) (ox_wat (lg L) (ii : Int))) u25) (by rw [show st_undo (ob_keep (ob_un L) (ox_wat (lg L) (ii : Int))) = ob_un (ob_un L) from ob_undo_keep (ob_un L) _]) ?_
                                    refine hv_eqst (st' := [.int (zI (an_undo (ob_keep (ob_un L) (ox_wat (lg L) (ii : Int)))))]) rfl ?_
                                    refine hv_topi (y := zI (((min (lsz (ob_un L) + 1) 14 - 1 : Nat) : Int))) (by rw [show an_undo (ob_keep (ob_un L) (ox_wat (lg L) (ii : Int))) = ((min (lsz (ob_un L) + 1) 14 - 1 : Nat) : Int) from an_undo_keep (ob_J_un hJ) _]) ?_
                                    refine hv_callS (As := [.int (zI (((min (lsz (ob_un L) + 1) 14 - 1 : Nat) : Int)))]) (rest := []) (wc := []) (wr := ob_W dA a (ob_un (ob_un L)) u30 ++ ob_W dA b (ob_keep (ob_un L) (ox_wat (lg L) (ii : Int))) u25) C (k_L_thrown_n l D dA ((min (lsz (ob_un L) + 1) 14 - 1 : Nat) : Int) (by omega)) (va_cwS 1 C.1.2.2.2.2 (hw_S tw_m_RL_195 tw_t_L_thrown tw_n_RL tw_k_L_thrown) rfl rfl rfl (by decide +kernel) ⟨Nat.le_of_ble_eq_true rfl, Nat.le_of_ble_eq_true rfl⟩) (List.Perm.of_eq (List.nil_append _).symm) rfl rfl (Nat.le_of_ble_eq_true rfl) dL_waters_250 ⟨Nat.le_of_ble_eq_true rfl, Nat.le_of_ble_eq_true rfl⟩ (fun _ _ => ?_)
                                    refine hv_weq (ws' := ob_W dA a (ob_un (ob_un L)) u30 ++ ob_W dA b (ob_keep (ob_un L) (ox_wat (lg L) (ii : Int))) u25) (List.nil_append _) ?_
                                    refine hv_eqst (st' := [.int (zI (0))]) rfl ?_
                                    refine hv_if_ne C dL_waters_253 (tgt := 284) (by decide) (zI_ne0 (by omega)) (fun hc253 => ?_) (fun hc253 => ?_)
                                    · exact absurd hc253 (by omega)
                                    · refine hv_aload_n C dL_waters_256 9 rfl ?_
                                      refine hv_bipush C dL_waters_257 (v := zI (11)) (by decide +kernel) ?_
                                      refine hv_iconst C dL_waters_259 (v := zI (0)) rfl ?_
                                      refine hv_iconst C dL_waters_260 (v := zI (0)) rfl ?_
                                      refine hv_iconst C dL_waters_261 (v := zI (0)) rfl ?_
                                      refine hz_callS (As := [.ref (b 0), .int (zI (11)), .int (zI (0)), .int (zI (0)), .int (zI (0))]) (rest := []) (wc := ob_W dA b (ob_keep (ob_un L) (ox_wat (lg L) (ii : Int))) u25) (wr := ob_W dA a (ob_un (ob_un L)) u30) C X (k_C_undo l D dA sa hst b (ob_keep (ob_un L) (ox_wat (lg L) (ii : Int))) u25 (ob_J_keep (ob_J_un hJ) (WF_wat hg (xc_wat_n hg hxi))) hu25.1 (0) (0) (0)) (va_cwS 5 C.1.2.2.2.2 (hw_S tw_m_RL_132 tw_t_L_call tw_n_RL tw_k_L_call) rfl rfl rfl (by decide +kernel) ⟨Nat.le_of_ble_eq_true rfl, Nat.le_of_ble_eq_true rfl⟩) List.perm_append_comm rfl rfl (Nat.le_of_ble_eq_true rfl) dL_waters_262 ⟨Nat.le_of_ble_eq_true rfl, Nat.le_of_ble_eq_true rfl⟩ (fun u31 hu31 => ?_)
                                      have haj31 := ob_pj hu31 (ob_pj hu25 (ob_pj hu20 (ob_pj hu17 hajq)))
                                      refine hv_perm (ws' := ob_W dA a (ob_un (ob_un L)) u30 ++ ob_W dA b (st_undo (ob_keep (ob_un L) (ox_wat (lg L) (ii : Int)))) u31) List.perm_append_comm ?_
                                      refine hv_weq (ws' := ob_W dA a (ob_un (ob_un L)) u30 ++ ob_W dA b (ob_un (ob_un L)) u31) (by rw [show st_undo (ob_keep (ob_un L) (ox_wat (lg L) (ii : Int))) = ob_un (ob_un L) from ob_undo_keep (ob_un L) _]) ?_
                                      refine hv_eqst (st' := [.int (zI (an_undo (ob_keep (ob_un L) (ox_wat (lg L) (ii : Int)))))]) rfl ?_
                                      refine hv_topi (y := zI (((min (lsz (ob_un L) + 1) 14 - 1 : Nat) : Int))) (by rw [show an_undo (ob_keep (ob_un L) (ox_wat (lg L) (ii : Int))) = ((min (lsz (ob_un L) + 1) 14 - 1 : Nat) : Int) from an_undo_keep (ob_J_un hJ) _]) ?_
                                      refine hv_callS (As := [.int (zI (((min (lsz (ob_un L) + 1) 14 - 1 : Nat) : Int)))]) (rest := []) (wc := []) (wr := ob_W dA a (ob_un (ob_un L)) u30 ++ ob_W dA b (ob_un (ob_un L)) u31) C (k_L_thrown_n l D dA ((min (lsz (ob_un L) + 1) 14 - 1 : Nat) : Int) (by omega)) (va_cwS 1 C.1.2.2.2.2 (hw_S tw_m_RL_195 tw_t_L_thrown tw_n_RL tw_k_L_thrown) rfl rfl rfl (by decide +kernel) ⟨Nat.le_of_ble_eq_true rfl, Nat.le_of_ble_eq_true rfl⟩) (List.Perm.of_eq (List.nil_append _).symm) rfl rfl (Nat.le_of_ble_eq_true rfl) dL_waters_265 ⟨Nat.le_of_ble_eq_true rfl, Nat.le_of_ble_eq_true rfl⟩ (fun _ _ => ?_)
                                      refine hv_weq (ws' := ob_W dA a (ob_un (ob_un L)) u30 ++ ob_W dA b (ob_un (ob_un L)) u31) (List.nil_append _) ?_
                                      refine hv_eqst (st' := [.int (zI (0))]) rfl ?_
                                      refine hv_if_ne C dL_waters_268 (tgt := 284) (by decide) (zI_ne0 (by omega)) (fun hc268 => ?_) (fun hc268 => ?_)
                                      · exact absurd hc268 (by omega)
                                      · refine hv_aload_n C dL_waters_271 8 rfl ?_
                                        refine hv_callV (As := []) (rest := []) (wc := ob_W dA a (ob_un (ob_un L)) u30) (wr := ob_W dA b (ob_un (ob_un L)) u31) C (k_O_worth l D dA a (ob_un (ob_un L)) u30 (ob_J_un (ob_J_un hJ)) hu30.1 (ob_pj hu30 haj26)) (cwV 0 C.1.2.2.2.2 (hw_V tw_m_RL_149 tw_i_X8_worth tw_s_X8_worth tw_n_RX8 tw_k_X8_worth) rfl rfl rfl (by decide +kernel) ⟨Nat.le_of_ble_eq_true rfl, Nat.le_of_ble_eq_true rfl⟩) (List.Perm.refl _) rfl 0 6 rfl rfl rfl (Nat.le_of_ble_eq_true rfl) dL_waters_272 ⟨Nat.le_of_ble_eq_true rfl, Nat.le_of_ble_eq_true rfl⟩ (fun u32 hu32 => ?_)
                                        have haj32 := ob_pj hu32 (ob_pj hu30 haj26)
                                        refine hv_eqst (st' := [.int (zI (100 + ox_w (lg (ob_un (ob_un L)))))]) rfl ?_
                                        refine hv_topi (y := zI (100 + ox_w (lg L))) (by rw [show 100 + ox_w (lg (ob_un (ob_un L))) = 100 + ox_w (lg L) from rfl]) ?_
                                        refine hv_iload C dL_waters_275 6 rfl ?_
                                        refine hv_icmp_ne C dL_waters_277 (tgt := 284) (by decide) Iff.rfl (fun hc277 => ?_) (fun hc277 => ?_)
                                        · exact absurd hc277 (by exact fun q => q rfl)
                                        · refine hv_iconst C dL_waters_280 (v := zI (1)) rfl ?_
                                          refine hv_goto C dL_waters_281 (tgt := 285) (by decide) ?_
                                          exact hv_iret C M dL_waters_285 rfl zB_n1 (ob_un (ob_un L), u32, u31) ⟨⟨ob_J_un (ob_J_un hJ), ob_A_un (ob_J_un hJ) (ob_A_un hJ hB), rfl⟩, ⟨hu32.1, haj32⟩, hu31.1, (ob_pj hu31 (ob_pj hu25 (ob_pj hu20 (ob_pj hu17 hajq))))⟩ rfl [] (List.Perm.of_eq (List.append_nil _).symm) (Nat.le_of_ble_eq_true rfl) (Nat.le_of_ble_eq_true rfl)
                        · exact absurd hc176 (by omega)

