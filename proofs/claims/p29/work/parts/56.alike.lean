/-! numbers of the law's checks -/
theorem win_c1 {g : Nat → Int} (h : ¬ zI (ox_ahead g) ≤ 0) : ox_win g = g 3 := by
  have h1 : ¬ (zI (ox_ahead g)).toInt ≤ (0 : Int32).toInt := fun q => h (Int32.le_iff_toInt_le.mpr q)
  have h0 : (0 : Int32).toInt = 0 := by decide
  unfold ox_win
  rw [if_neg (fun z => h1 (by rw [z]; exact Int.le_refl _)), if_pos (Int32.lt_iff_toInt_lt.mpr (by omega))]
theorem win_c2 {g : Nat → Int} (h : ¬ 0 ≤ zI (ox_ahead g)) : ox_win g = 1 - g 3 := by
  have h1 : ¬ (0 : Int32).toInt ≤ (zI (ox_ahead g)).toInt := fun q => h (Int32.le_iff_toInt_le.mpr q)
  have h0 : (0 : Int32).toInt = 0 := by decide
  unfold ox_win
  rw [if_neg (fun z => h1 (by rw [z]; exact Int.le_refl _)), if_neg (fun z => by have := Int32.lt_iff_toInt_lt.mp z; omega)]
theorem win_c3 {g : Nat → Int} (h : zI (ox_ahead g) ≤ 0) (h2 : 0 ≤ zI (ox_ahead g)) : ox_win g = 2 := by
  have h1 := Int32.le_iff_toInt_le.mp h
  have h3 := Int32.le_iff_toInt_le.mp h2
  unfold ox_win
  rw [if_pos (Int32.toInt_inj.mp (Int.le_antisymm h1 h3))]
theorem hd_by {g : Nat → Int} (ht : 0 ≤ g 3 ∧ g 3 < 2) : (if 1 - g 3 = 0 then g 6 else g 7) - (if g 3 = 0 then g 6 else g 7) + ox_w g = ox_ahead g := by
  unfold ox_ahead
  rcases (show g 3 = 0 ∨ g 3 = 1 by omega) with q | q
  · rw [if_neg (by omega), if_pos q, if_pos q]
  · rw [if_pos (by omega), if_neg (by omega), if_neg (by omega)]
theorem hd_had (g : Nat → Int) (c : Nat) : (if g 3 = 0 then ox_clip g c 6 else ox_clip g c 7) = (if g 3 = 0 then g 6 else g 7) + (g 4 * ((sp_lc (gH g) : Int) - (sp_lc (sp_bh (gS g) (gW g) (gH g) c) : Int))) := by
  show (if g 3 = 0 then (if g 3 = 0 then g 6 + sp_fi g (gH g) (sp_bh (gS g) (gW g) (gH g) c) else g 6) else (if g 3 = 0 then g 7 else g 7 + sp_fi g (gH g) (sp_bh (gS g) (gW g) (gH g) c))) = _
  by_cases q : g 3 = 0
  · rw [if_pos q, if_pos q, if_pos q]; rfl
  · rw [if_neg q, if_neg q, if_neg q]; rfl
theorem hd_took (g : Nat → Int) (c : Nat) : (if g 3 = 0 then ox_clip g c 10 else ox_clip g c 11) = (if g 3 = 0 then g 10 else g 11) + ((sp_lv (gH g) : Int) - (sp_lv (sp_bh (gS g) (gW g) (gH g) c) : Int)) := by
  show (if g 3 = 0 then (if g 3 = 0 then g 10 + ((sp_lv (gH g) : Int) - (sp_lv (sp_bh (gS g) (gW g) (gH g) c) : Int)) else g 10) else (if g 3 = 0 then g 11 else g 11 + ((sp_lv (gH g) : Int) - (sp_lv (sp_bh (gS g) (gW g) (gH g) c) : Int)))) = _
  by_cases q : g 3 = 0
  · rw [if_pos q, if_pos q, if_pos q]
  · rw [if_neg q, if_neg q, if_neg q]
theorem wo_cnt_can0 (l : List Nat) : wo_cnt (wo_can 0) l = 0 := by
  unfold wo_cnt
  rw [List.filter_eq_nil_iff.mpr (fun c _ => by unfold wo_can; rw [sp_cc0]; decide)]
  rfl
theorem ob_bok {S r b : Nat} (hS : 2 ≤ S ∧ S ≤ 6) (hr : 1 ≤ r ∧ r ≤ 3) (h : b ∈ wo_cls S r) : b / 100 ≤ b / 10 % 10 ∧ b / 10 % 10 < S ∧ 1 ≤ b % 10 ∧ b % 10 ≤ 3 := wo_cls_ok S (by omega) r (by omega) b h
theorem wo_cls_w {S r b : Nat} (hS : 2 ≤ S ∧ S ≤ 6) (hr : 1 ≤ r ∧ r ≤ 3) (h : b ∈ wo_cls S r) : b / 10 % 10 - b / 100 < r := by
  rw [← hk_end S hS r hr] at h
  obtain ⟨i, hi, e⟩ := List.mem_map.mp h
  have h2 := (List.mem_filter.mp hi).2
  have h3 := List.mem_range.mp (List.mem_filter.mp hi).1
  unfold hk_a at h2
  simp only [Bool.and_eq_true, decide_eq_true_eq] at h2
  obtain ⟨h4, h5⟩ := h2
  subst e
  unfold hk_c
  have hA : i / 9 < 6 := by omega
  have hB : i / 3 % 3 < 3 := Nat.mod_lt _ (by decide)
  have hC : i % 3 < 3 := Nat.mod_lt _ (by decide)
  clear h3 hi h
  generalize i / 9 = A at hA h4 ⊢
  generalize i / 3 % 3 = B at hB h4 h5 ⊢
  generalize i % 3 = C at hC ⊢
  omega

set_option maxHeartbeats 4000000 in
set_option maxRecDepth 100000 in
theorem k_L_alike (l : Launch) (D : va_G) (dA : Nat → ClassId) (sa : Nat → Nat) (hst : l.stackTraces = false) (a b : Nat → Nat) (L : ob_L) (h h9 : ob_H) (hJ : ob_J L) (hk0 : ob_k h) (hk9 : ob_k h9) (y : Int) (hy : 0 ≤ y ∧ y < 5000) : hy_Ct l yL_alike (hw_W yL_alike cL_alike 5 (some .boolean)) 47 D dA sa [.ref (a 0), .ref (b 0), .int (zI (y))] (ob_W dA a L h ++ ob_W dA b L h9) 80 8736 (S := ob_H × ob_H) (fun _ => some (.int (zI (1)))) (fun u => (ob_k u.1 ∧ hal u.1 (ox_j (lg L)) = true) ∧ ob_k u.2 ∧ hal u.2 (ox_j (lg L)) = true) (fun u => ob_W dA a L u.1 ++ ob_W dA b L u.2) := by
  have hg0 := hJ.1.1
  refine hz_of (own := RL) (cc := cL_alike) (maxL := 5) (ret := (some .boolean)) rfl (by decide) rfl (Nat.le_of_ble_eq_true rfl) ?_
  intro p e s m args below meth c C X M
  refine hv_lveq (lv' := [(0, .ref (a 0)), (1, .ref (b 0)), (2, .int (zI (y)))]) rfl ?_
  refine hv_aload_n C dL_alike_0 0 rfl ?_
  refine hv_iload_n C dL_alike_1 2 rfl ?_
  refine hv_i2l C dL_alike_2 (v := ((zI y).toInt64)) (by rfl) ?_
  refine hv_iconst C dL_alike_3 (v := zI (1)) rfl ?_
  refine hv_iload_n C dL_alike_4 2 rfl ?_
  refine hv_bipush C dL_alike_5 (v := zI (30)) (by decide +kernel) ?_
  refine hv_irem C dL_alike_7 (z := zI (y % 30)) ((zI_ne0 (by omega)).mpr (by omega)) ((zI_rem (by omega)).trans (zI_c (by omega))) ?_
  refine hv_iadd C dL_alike_8 (z := zI (1 + y % 30)) ((zI_add _ _).trans (zI_c (by omega))) ?_
  refine hy_callS (As := [.ref (a 0), .long ((zI y).toInt64), .int (zI (1 + y % 30))]) (rest := []) (wc := ob_W dA a L h) (wr := ob_W dA b L h9) C X (k_T_sim l D dA sa hst a L h hJ hk0 (1 + y % 30) (by omega) ((zI y).toInt64)) (vx_cwSW 3 C.1.2.2.2.2 (hw_SH tw_m_RL_145 tw_t_L_doSimulate tw_n_RL tw_k_L_doSimulate) rfl rfl rfl (by decide +kernel) ⟨Nat.le_of_ble_eq_true rfl, Nat.le_of_ble_eq_true rfl⟩) (List.Perm.refl _) rfl rfl (Nat.le_of_ble_eq_true rfl) dL_alike_9 ⟨Nat.le_of_ble_eq_true rfl, Nat.le_of_ble_eq_true rfl⟩ (fun u1 hu1 => ?_)
  refine hv_eqst (st' := [.int (zI (an_sim L (1 + y % 30) ((zI y).toInt64)))]) rfl ?_
  refine hv_aload_n C dL_alike_12 1 rfl ?_
  refine hv_iload_n C dL_alike_13 2 rfl ?_
  refine hv_i2l C dL_alike_14 (v := ((zI y).toInt64)) (by rfl) ?_
  refine hv_iconst C dL_alike_15 (v := zI (1)) rfl ?_
  refine hv_iload_n C dL_alike_16 2 rfl ?_
  refine hv_bipush C dL_alike_17 (v := zI (30)) (by decide +kernel) ?_
  refine hv_irem C dL_alike_19 (z := zI (y % 30)) ((zI_ne0 (by omega)).mpr (by omega)) ((zI_rem (by omega)).trans (zI_c (by omega))) ?_
  refine hv_iadd C dL_alike_20 (z := zI (1 + y % 30)) ((zI_add _ _).trans (zI_c (by omega))) ?_
  refine hy_callS (As := [.ref (b 0), .long ((zI y).toInt64), .int (zI (1 + y % 30))]) (rest := [.int (zI (an_sim L (1 + y % 30) ((zI y).toInt64)))]) (wc := ob_W dA b L h9) (wr := ob_W dA a L u1) C X (k_T_sim l D dA sa hst b L h9 hJ hk9 (1 + y % 30) (by omega) ((zI y).toInt64)) (vx_cwSW 3 C.1.2.2.2.2 (hw_SH tw_m_RL_145 tw_t_L_doSimulate tw_n_RL tw_k_L_doSimulate) rfl rfl rfl (by decide +kernel) ⟨Nat.le_of_ble_eq_true rfl, Nat.le_of_ble_eq_true rfl⟩) List.perm_append_comm rfl rfl (Nat.le_of_ble_eq_true rfl) dL_alike_21 ⟨Nat.le_of_ble_eq_true rfl, Nat.le_of_ble_eq_true rfl⟩ (fun u2 hu2 => ?_)
  refine hv_perm (ws' := ob_W dA a L u1 ++ ob_W dA b L u2) List.perm_append_comm ?_
  refine hv_eqst (st' := [.int (zI (an_sim L (1 + y % 30) ((zI y).toInt64))), .int (zI (an_sim L (1 + y % 30) ((zI y).toInt64)))]) rfl ?_
  refine hv_icmp_ne C dL_alike_24 (tgt := 53) (by decide) Iff.rfl (fun hc24 => ?_) (fun hc24 => ?_)
  · exact absurd hc24 (by exact fun q => q rfl)
  · refine hv_aload_n C dL_alike_27 0 rfl ?_
    refine hv_callV (As := []) (rest := []) (wc := ob_W dA a L u1) (wr := ob_W dA b L u2) C (k_O_worth1 l D dA a L u1 hJ hu1.1) (cwV 0 C.1.2.2.2.2 (hw_V tw_m_RL_149 tw_i_X8_worth tw_s_X8_worth tw_n_RX8 tw_k_X8_worth) rfl rfl rfl (by decide +kernel) ⟨Nat.le_of_ble_eq_true rfl, Nat.le_of_ble_eq_true rfl⟩) (List.Perm.refl _) rfl 0 6 rfl rfl rfl (Nat.le_of_ble_eq_true rfl) dL_alike_28 ⟨Nat.le_of_ble_eq_true rfl, Nat.le_of_ble_eq_true rfl⟩ (fun u3 hu3 => ?_)
    have haj3 := ob_w1 hu3
    refine hv_eqst (st' := [.int (zI (100 + ox_w (lg L)))]) rfl ?_
    refine hv_aload_n C dL_alike_31 1 rfl ?_
    refine hv_callV (As := []) (rest := [.int (zI (100 + ox_w (lg L)))]) (wc := ob_W dA b L u2) (wr := ob_W dA a L u3) C (k_O_worth1 l D dA b L u2 hJ hu2.1) (cwV 0 C.1.2.2.2.2 (hw_V tw_m_RL_149 tw_i_X8_worth tw_s_X8_worth tw_n_RX8 tw_k_X8_worth) rfl rfl rfl (by decide +kernel) ⟨Nat.le_of_ble_eq_true rfl, Nat.le_of_ble_eq_true rfl⟩) List.perm_append_comm rfl 0 6 rfl rfl rfl (Nat.le_of_ble_eq_true rfl) dL_alike_32 ⟨Nat.le_of_ble_eq_true rfl, Nat.le_of_ble_eq_true rfl⟩ (fun u4 hu4 => ?_)
    have haj4 := ob_w1 hu4
    refine hv_perm (ws' := ob_W dA a L u3 ++ ob_W dA b L u4) List.perm_append_comm ?_
    refine hv_eqst (st' := [.int (zI (100 + ox_w (lg L))), .int (zI (100 + ox_w (lg L)))]) rfl ?_
    refine hv_icmp_ne C dL_alike_35 (tgt := 53) (by decide) Iff.rfl (fun hc35 => ?_) (fun hc35 => ?_)
    · exact absurd hc35 (by exact fun q => q rfl)
    · refine hv_aload_n C dL_alike_38 0 rfl ?_
      refine hv_callV (As := []) (rest := []) (wc := ob_W dA a L u3) (wr := ob_W dA b L u4) C (k_O_bestWater l D dA a L u3 hJ hu3.1 haj3) (cwV 0 C.1.2.2.2.2 (hw_V tw_m_RL_164 tw_i_X8_bestWater tw_s_X8_bestWater tw_n_RX8 tw_k_X8_bestWater) rfl rfl rfl (by decide +kernel) ⟨Nat.le_of_ble_eq_true rfl, Nat.le_of_ble_eq_true rfl⟩) (List.Perm.refl _) rfl 0 6 rfl rfl rfl (Nat.le_of_ble_eq_true rfl) dL_alike_39 ⟨Nat.le_of_ble_eq_true rfl, Nat.le_of_ble_eq_true rfl⟩ (fun u5 hu5 => ?_)
      have haj5 := ob_pj hu5 haj3
      refine hv_eqst (st' := [.int (zI ((ox_bw (lg L) (gS (lg L))).1))]) rfl ?_
      refine hv_aload_n C dL_alike_42 1 rfl ?_
      refine hv_callV (As := []) (rest := [.int (zI ((ox_bw (lg L) (gS (lg L))).1))]) (wc := ob_W dA b L u4) (wr := ob_W dA a L u5) C (k_O_bestWater l D dA b L u4 hJ hu4.1 haj4) (cwV 0 C.1.2.2.2.2 (hw_V tw_m_RL_164 tw_i_X8_bestWater tw_s_X8_bestWater tw_n_RX8 tw_k_X8_bestWater) rfl rfl rfl (by decide +kernel) ⟨Nat.le_of_ble_eq_true rfl, Nat.le_of_ble_eq_true rfl⟩) List.perm_append_comm rfl 0 6 rfl rfl rfl (Nat.le_of_ble_eq_true rfl) dL_alike_43 ⟨Nat.le_of_ble_eq_true rfl, Nat.le_of_ble_eq_true rfl⟩ (fun u6 hu6 => ?_)
      have haj6 := ob_pj hu6 haj4
      refine hv_perm (ws' := ob_W dA a L u5 ++ ob_W dA b L u6) List.perm_append_comm ?_
      refine hv_eqst (st' := [.int (zI ((ox_bw (lg L) (gS (lg L))).1)), .int (zI ((ox_bw (lg L) (gS (lg L))).1))]) rfl ?_
      refine hv_icmp_ne C dL_alike_46 (tgt := 53) (by decide) Iff.rfl (fun hc46 => ?_) (fun hc46 => ?_)
      · exact absurd hc46 (by exact fun q => q rfl)
      · refine hv_iconst C dL_alike_49 (v := zI (1)) rfl ?_
        refine hv_goto C dL_alike_50 (tgt := 54) (by decide) ?_
        refine hv_istore_n C dL_alike_54 (lw := [(3, .int (zI (1))), (0, .ref (a 0)), (1, .ref (b 0)), (2, .int (zI (y)))]) (by decide) rfl ?_
        refine hv_iconst C dL_alike_55 (v := zI (0)) rfl ?_
        refine hv_istore C dL_alike_56 (lw := [(4, .int (zI (0))), (3, .int (zI (1))), (0, .ref (a 0)), (1, .ref (b 0)), (2, .int (zI (y)))]) (by decide) rfl ?_
        refine hv_loop (σ := Nat × ob_H × ob_H) (fun n9 x => x.1 + n9 = 9 ∧ (ob_k x.2.1 ∧ hal x.2.1 (ox_j (lg L)) = true) ∧ ob_k x.2.2 ∧ hal x.2.2 (ox_j (lg L)) = true) (fun x => ob_W dA a L x.2.1 ++ ob_W dA b L x.2.2) (fun x => [(4, .int (zI ((x.1 : Int)))), (3, .int (zI (1))), (0, .ref (a 0)), (1, .ref (b 0)), (2, .int (zI (y)))]) (fun x => []) (fun x => 8 + 8 * x.1) (fun x => 8304 + 48 * x.1) (9) ((0, u5, u6)) (⟨rfl, ⟨hu5.1, haj5⟩, hu6.1, haj6⟩) (⟨rfl, rfl, rfl, rfl, rfl⟩) (fun n9 x hI ih => ?_)
        obtain ⟨i, v, w⟩ := x
        dsimp only at hI ⊢
        obtain ⟨hi, ⟨hv1, hv2⟩, hw1, hw2⟩ := hI
        refine hv_iload C dL_alike_58 0 rfl ?_
        refine hv_bipush C dL_alike_60 (v := zI (9)) (by decide +kernel) ?_
        refine hv_icmp_ge C dL_alike_62 (tgt := 175) (by decide) (zI_le (by omega)) (fun hc62 => ?_) (fun hc62 => ?_)
        · refine hv_iload_n C dL_alike_175 1 rfl ?_
          exact hv_iret C M dL_alike_176 rfl zB_n1 (v, w) ⟨⟨hv1, hv2⟩, hw1, hw2⟩ rfl [] (List.Perm.of_eq (List.append_nil _).symm) (by omega) (by omega)
        · refine hv_iload_n C dL_alike_65 1 rfl ?_
          refine hv_if_eq C dL_alike_66 (tgt := 175) (by decide) (zI_eq0 (by omega)) (fun hc66 => ?_) (fun hc66 => ?_)
          · exact absurd hc66 (by omega)
          · refine hv_aload_n C dL_alike_69 2 rfl ?_
            refine hv_iconst C dL_alike_70 (v := zI (2)) rfl ?_
            refine hv_iload C dL_alike_71 0 rfl ?_
            refine hv_iconst C dL_alike_73 (v := zI (0)) rfl ?_
            refine hv_iconst C dL_alike_74 (v := zI (0)) rfl ?_
            refine hz_callS (As := [.ref (a 0), .int (zI (2)), .int (zI ((i : Int))), .int (zI (0)), .int (zI (0))]) (rest := []) (wc := ob_W dA a L v) (wr := ob_W dA b L w) C X (k_C_about_r l D dA sa hst a L v hJ hv1 (i : Int) (by omega) (0) (0) hv2) (va_cwS 5 C.1.2.2.2.2 (hw_S tw_m_RL_132 tw_t_L_call tw_n_RL tw_k_L_call) rfl rfl rfl (by decide +kernel) ⟨Nat.le_of_ble_eq_true rfl, Nat.le_of_ble_eq_true rfl⟩) (List.Perm.refl _) rfl rfl (Nat.le_of_ble_eq_true rfl) dL_alike_75 ⟨by show 8 + 8 * i + 1 ≤ 80; omega, by show 8304 + 48 * i + 6 ≤ 8736; omega⟩ (fun u7 hu7 => ?_)
            have haj7 := ob_pj hu7 hv2
            refine hv_eqst (st' := [.int (zI (an_about L (i : Int)))]) rfl ?_
            refine hv_aload_n C dL_alike_78 3 rfl ?_
            refine hv_iconst C dL_alike_79 (v := zI (2)) rfl ?_
            refine hv_iload C dL_alike_80 0 rfl ?_
            refine hv_iconst C dL_alike_82 (v := zI (0)) rfl ?_
            refine hv_iconst C dL_alike_83 (v := zI (0)) rfl ?_
            refine hz_callS (As := [.ref (b 0), .int (zI (2)), .int (zI ((i : Int))), .int (zI (0)), .int (zI (0))]) (rest := [.int (zI (an_about L (i : Int)))]) (wc := ob_W dA b L w) (wr := ob_W dA a L u7) C X (k_C_about_r l D dA sa hst b L w hJ hw1 (i : Int) (by omega) (0) (0) hw2) (va_cwS 5 C.1.2.2.2.2 (hw_S tw_m_RL_132 tw_t_L_call tw_n_RL tw_k_L_call) rfl rfl rfl (by decide +kernel) ⟨Nat.le_of_ble_eq_true rfl, Nat.le_of_ble_eq_true rfl⟩) List.perm_append_comm rfl rfl (Nat.le_of_ble_eq_true rfl) dL_alike_84 ⟨by show 8 + 8 * i + 1 + 1 ≤ 80; omega, by show 8304 + 48 * i + 6 + 6 ≤ 8736; omega⟩ (fun u8 hu8 => ?_)
            have haj8 := ob_pj hu8 hw2
            refine hv_perm (ws' := ob_W dA a L u7 ++ ob_W dA b L u8) List.perm_append_comm ?_
            refine hv_eqst (st' := [.int (zI (an_about L (i : Int))), .int (zI (an_about L (i : Int)))]) rfl ?_
            refine hv_icmp_ne C dL_alike_87 (tgt := 167) (by decide) Iff.rfl (fun hc87 => ?_) (fun hc87 => ?_)
            · exact absurd hc87 (by exact fun q => q rfl)
            · refine hv_aload_n C dL_alike_90 2 rfl ?_
              refine hv_iconst C dL_alike_91 (v := zI (5)) rfl ?_
              refine hv_iload C dL_alike_92 0 rfl ?_
              refine hv_iconst C dL_alike_94 (v := zI (0)) rfl ?_
              refine hv_iconst C dL_alike_95 (v := zI (0)) rfl ?_
              refine hz_callS (As := [.ref (a 0), .int (zI (5)), .int (zI ((i : Int))), .int (zI (0)), .int (zI (0))]) (rest := []) (wc := ob_W dA a L u7) (wr := ob_W dA b L u8) C X (k_C_setting l D dA sa hst a L u7 hJ hu7.1 (i : Int) (by omega) (0) (0)) (va_cwS 5 C.1.2.2.2.2 (hw_S tw_m_RL_132 tw_t_L_call tw_n_RL tw_k_L_call) rfl rfl rfl (by decide +kernel) ⟨Nat.le_of_ble_eq_true rfl, Nat.le_of_ble_eq_true rfl⟩) (List.Perm.refl _) rfl rfl (Nat.le_of_ble_eq_true rfl) dL_alike_96 ⟨by show 8 + 8 * i + 1 + 1 + 1 ≤ 80; omega, by show 8304 + 48 * i + 6 + 6 + 6 ≤ 8736; omega⟩ (fun u9 hu9 => ?_)
              have haj9 := ob_pj hu9 haj7
              refine hv_eqst (st' := [.int (zI (an_setting L (i : Int)))]) rfl ?_
              refine hv_aload_n C dL_alike_99 3 rfl ?_
              refine hv_iconst C dL_alike_100 (v := zI (5)) rfl ?_
              refine hv_iload C dL_alike_101 0 rfl ?_
              refine hv_iconst C dL_alike_103 (v := zI (0)) rfl ?_
              refine hv_iconst C dL_alike_104 (v := zI (0)) rfl ?_
              refine hz_callS (As := [.ref (b 0), .int (zI (5)), .int (zI ((i : Int))), .int (zI (0)), .int (zI (0))]) (rest := [.int (zI (an_setting L (i : Int)))]) (wc := ob_W dA b L u8) (wr := ob_W dA a L u9) C X (k_C_setting l D dA sa hst b L u8 hJ hu8.1 (i : Int) (by omega) (0) (0)) (va_cwS 5 C.1.2.2.2.2 (hw_S tw_m_RL_132 tw_t_L_call tw_n_RL tw_k_L_call) rfl rfl rfl (by decide +kernel) ⟨Nat.le_of_ble_eq_true rfl, Nat.le_of_ble_eq_true rfl⟩) List.perm_append_comm rfl rfl (Nat.le_of_ble_eq_true rfl) dL_alike_105 ⟨by show 8 + 8 * i + 1 + 1 + 1 + 1 ≤ 80; omega, by show 8304 + 48 * i + 6 + 6 + 6 + 6 ≤ 8736; omega⟩ (fun u10 hu10 => ?_)
              have haj10 := ob_pj hu10 haj8
              refine hv_perm (ws' := ob_W dA a L u9 ++ ob_W dA b L u10) List.perm_append_comm ?_
              refine hv_eqst (st' := [.int (zI (an_setting L (i : Int))), .int (zI (an_setting L (i : Int)))]) rfl ?_
              refine hv_icmp_ne C dL_alike_108 (tgt := 167) (by decide) Iff.rfl (fun hc108 => ?_) (fun hc108 => ?_)
              · exact absurd hc108 (by exact fun q => q rfl)
              · refine hv_aload_n C dL_alike_111 2 rfl ?_
                refine hv_iconst C dL_alike_112 (v := zI (3)) rfl ?_
                refine hv_iload C dL_alike_113 0 rfl ?_
                refine hv_iconst C dL_alike_115 (v := zI (0)) rfl ?_
                refine hv_iconst C dL_alike_116 (v := zI (0)) rfl ?_
                refine hz_callS (As := [.ref (a 0), .int (zI (3)), .int (zI ((i : Int))), .int (zI (0)), .int (zI (0))]) (rest := []) (wc := ob_W dA a L u9) (wr := ob_W dA b L u10) C X (k_C_leaves l D dA sa hst a L u9 hJ hu9.1 (i : Int) (by omega) (0) (0)) (va_cwS 5 C.1.2.2.2.2 (hw_S tw_m_RL_132 tw_t_L_call tw_n_RL tw_k_L_call) rfl rfl rfl (by decide +kernel) ⟨Nat.le_of_ble_eq_true rfl, Nat.le_of_ble_eq_true rfl⟩) (List.Perm.refl _) rfl rfl (Nat.le_of_ble_eq_true rfl) dL_alike_117 ⟨by show 8 + 8 * i + 1 + 1 + 1 + 1 + 1 ≤ 80; omega, by show 8304 + 48 * i + 6 + 6 + 6 + 6 + 6 ≤ 8736; omega⟩ (fun u11 hu11 => ?_)
                have haj11 := ob_pj hu11 haj9
                refine hv_eqst (st' := [.int (zI (an_leaves L (i : Int)))]) rfl ?_
                refine hv_aload_n C dL_alike_120 3 rfl ?_
                refine hv_iconst C dL_alike_121 (v := zI (3)) rfl ?_
                refine hv_iload C dL_alike_122 0 rfl ?_
                refine hv_iconst C dL_alike_124 (v := zI (0)) rfl ?_
                refine hv_iconst C dL_alike_125 (v := zI (0)) rfl ?_
                refine hz_callS (As := [.ref (b 0), .int (zI (3)), .int (zI ((i : Int))), .int (zI (0)), .int (zI (0))]) (rest := [.int (zI (an_leaves L (i : Int)))]) (wc := ob_W dA b L u10) (wr := ob_W dA a L u11) C X (k_C_leaves l D dA sa hst b L u10 hJ hu10.1 (i : Int) (by omega) (0) (0)) (va_cwS 5 C.1.2.2.2.2 (hw_S tw_m_RL_132 tw_t_L_call tw_n_RL tw_k_L_call) rfl rfl rfl (by decide +kernel) ⟨Nat.le_of_ble_eq_true rfl, Nat.le_of_ble_eq_true rfl⟩) List.perm_append_comm rfl rfl (Nat.le_of_ble_eq_true rfl) dL_alike_126 ⟨by show 8 + 8 * i + 1 + 1 + 1 + 1 + 1 + 1 ≤ 80; omega, by show 8304 + 48 * i + 6 + 6 + 6 + 6 + 6 + 6 ≤ 8736; omega⟩ (fun u12 hu12 => ?_)
                have haj12 := ob_pj hu12 haj10
                refine hv_perm (ws' := ob_W dA a L u11 ++ ob_W dA b L u12) List.perm_append_comm ?_
                refine hv_eqst (st' := [.int (zI (an_leaves L (i : Int))), .int (zI (an_leaves L (i : Int)))]) rfl ?_
                refine hv_icmp_ne C dL_alike_129 (tgt := 167) (by decide) Iff.rfl (fun hc129 => ?_) (fun hc129 => ?_)
                · exact absurd hc129 (by exact fun q => q rfl)
                · refine hv_aload_n C dL_alike_132 2 rfl ?_
                  refine hv_iconst C dL_alike_133 (v := zI (4)) rfl ?_
                  refine hv_iload C dL_alike_134 0 rfl ?_
                  refine hv_iconst C dL_alike_136 (v := zI (2)) rfl ?_
                  refine hv_irem C dL_alike_137 (z := zI ((i : Int) % 2)) ((zI_ne0 (by omega)).mpr (by omega)) ((zI_rem (by omega)).trans (zI_c (by omega))) ?_
                  refine hv_iload C dL_alike_138 0 rfl ?_
                  refine hv_iconst C dL_alike_140 (v := zI (2)) rfl ?_
                  refine hv_idiv C dL_alike_141 (z := zI ((i : Int) / 2)) ((zI_ne0 (by omega)).mpr (by omega)) ((zI_div (by omega)).trans (zI_c (by omega))) ?_
                  refine hv_iconst C dL_alike_142 (v := zI (0)) rfl ?_
                  refine hz_callS (As := [.ref (a 0), .int (zI (4)), .int (zI ((i : Int) % 2)), .int (zI ((i : Int) / 2)), .int (zI (0))]) (rest := []) (wc := ob_W dA a L u11) (wr := ob_W dA b L u12) C X (k_C_who l D dA sa hst a L u11 hJ hu11.1 ((i : Int) % 2) (by omega) ((i : Int) / 2) (by omega) (0)) (va_cwS 5 C.1.2.2.2.2 (hw_S tw_m_RL_132 tw_t_L_call tw_n_RL tw_k_L_call) rfl rfl rfl (by decide +kernel) ⟨Nat.le_of_ble_eq_true rfl, Nat.le_of_ble_eq_true rfl⟩) (List.Perm.refl _) rfl rfl (Nat.le_of_ble_eq_true rfl) dL_alike_143 ⟨by show 8 + 8 * i + 1 + 1 + 1 + 1 + 1 + 1 + 1 ≤ 80; omega, by show 8304 + 48 * i + 6 + 6 + 6 + 6 + 6 + 6 + 6 ≤ 8736; omega⟩ (fun u13 hu13 => ?_)
                  have haj13 := ob_pj hu13 haj11
                  refine hv_eqst (st' := [.int (zI (an_who L ((i : Int) % 2) ((i : Int) / 2)))]) rfl ?_
                  refine hv_aload_n C dL_alike_146 3 rfl ?_
                  refine hv_iconst C dL_alike_147 (v := zI (4)) rfl ?_
                  refine hv_iload C dL_alike_148 0 rfl ?_
                  refine hv_iconst C dL_alike_150 (v := zI (2)) rfl ?_
                  refine hv_irem C dL_alike_151 (z := zI ((i : Int) % 2)) ((zI_ne0 (by omega)).mpr (by omega)) ((zI_rem (by omega)).trans (zI_c (by omega))) ?_
                  refine hv_iload C dL_alike_152 0 rfl ?_
                  refine hv_iconst C dL_alike_154 (v := zI (2)) rfl ?_
                  refine hv_idiv C dL_alike_155 (z := zI ((i : Int) / 2)) ((zI_ne0 (by omega)).mpr (by omega)) ((zI_div (by omega)).trans (zI_c (by omega))) ?_
                  refine hv_iconst C dL_alike_156 (v := zI (0)) rfl ?_
                  refine hz_callS (As := [.ref (b 0), .int (zI (4)), .int (zI ((i : Int) % 2)), .int (zI ((i : Int) / 2)), .int (zI (0))]) (rest := [.int (zI (an_who L ((i : Int) % 2) ((i : Int) / 2)))]) (wc := ob_W dA b L u12) (wr := ob_W dA a L u13) C X (k_C_who l D dA sa hst b L u12 hJ hu12.1 ((i : Int) % 2) (by omega) ((i : Int) / 2) (by omega) (0)) (va_cwS 5 C.1.2.2.2.2 (hw_S tw_m_RL_132 tw_t_L_call tw_n_RL tw_k_L_call) rfl rfl rfl (by decide +kernel) ⟨Nat.le_of_ble_eq_true rfl, Nat.le_of_ble_eq_true rfl⟩) List.perm_append_comm rfl rfl (Nat.le_of_ble_eq_true rfl) dL_alike_157 ⟨by show 8 + 8 * i + 1 + 1 + 1 + 1 + 1 + 1 + 1 + 1 ≤ 80; omega, by show 8304 + 48 * i + 6 + 6 + 6 + 6 + 6 + 6 + 6 + 6 ≤ 8736; omega⟩ (fun u14 hu14 => ?_)
                  have haj14 := ob_pj hu14 haj12
                  refine hv_perm (ws' := ob_W dA a L u13 ++ ob_W dA b L u14) List.perm_append_comm ?_
                  refine hv_eqst (st' := [.int (zI (an_who L ((i : Int) % 2) ((i : Int) / 2))), .int (zI (an_who L ((i : Int) % 2) ((i : Int) / 2)))]) rfl ?_
                  refine hv_icmp_ne C dL_alike_160 (tgt := 167) (by decide) Iff.rfl (fun hc160 => ?_) (fun hc160 => ?_)
                  · exact absurd hc160 (by exact fun q => q rfl)
                  · refine hv_iconst C dL_alike_163 (v := zI (1)) rfl ?_
                    refine hv_goto C dL_alike_164 (tgt := 168) (by decide) ?_
                    refine hv_istore_n C dL_alike_168 (lw := [(3, .int (zI (1))), (4, .int (zI ((i : Int)))), (0, .ref (a 0)), (1, .ref (b 0)), (2, .int (zI (y)))]) (by decide) rfl ?_
                    refine hv_iinc C dL_alike_169 1 rfl (v := zI (((i + 1 : Nat) : Int))) ((zI_add _ _).trans (zI_c (by omega))) (by decide) (lw := [(4, .int (zI (((i + 1 : Nat) : Int)))), (3, .int (zI (1))), (0, .ref (a 0)), (1, .ref (b 0)), (2, .int (zI (y)))]) rfl ?_
                    refine hv_goto C dL_alike_172 (tgt := 58) (by decide) ?_
                    refine hv_lsub [0, 1, 2, 3, 4] (lv' := [(4, .int (zI (((i + 1 : Nat) : Int)))), (3, .int (zI (1))), (0, .ref (a 0)), (1, .ref (b 0)), (2, .int (zI (y)))]) rfl ?_
                    obtain ⟨k9, rfl⟩ : ∃ k9, n9 = k9 + 1 := ⟨n9 - 1, by omega⟩
                    refine hv_widen (ce' := 8 + 8 * (i + 1)) (sl' := 8304 + 48 * (i + 1)) (by omega) (by omega) ?_
                    exact ih k9 (i + 1, u13, u14) (by omega) ⟨by dsimp only; omega, ⟨hu13.1, haj13⟩, hu14.1, haj14⟩

