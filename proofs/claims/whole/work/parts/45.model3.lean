set_option maxHeartbeats 4000000 in
set_option maxRecDepth 100000 in
theorem k_X9_behind (l : Launch) (D : va_G) (dA : Nat → ClassId) (r9 : Nat) (g : Nat → Int) (hg : WF g) {zh za zb zk : Int} (h : Nat) (eh : zh = (h : Int)) (hh : h < 4 ^ gS g) (a b k : Nat) (ea : za = (a : Int)) (eb : zb = (b : Int)) (ek : zk = (k : Int)) (hab : a ≤ b) (hb : b < 6) (hk : k < 4) : hv_Ct l yX9_behind (hw_W yX9_behind cX9_behind 5 (some .int)) 3 D dA [.ref r9, .int (zI (zh)), .int (zI (za)), .int (zI (zb)), .int (zI (zk))] ([(r9, .inl (dA 0, 12, .inl (fun i => zI (g i))))]) 0 0 (S := Unit) (fun _ => some (.int (zI (sp_bh (gS g) (gW g) h (100 * a + 10 * b + k) : Int)))) (fun _ => True) (fun _ => [(r9, .inl (dA 0, 12, .inl (fun i => zI (g i))))]) := by
  subst eh
  subst ea
  subst eb
  subst ek
  have hhx := sp_hlt hg.S.2 hh
  refine hv_of (cc := cX9_behind) (maxL := 5) (ret := (some .int)) (own := RX9) rfl (by decide) rfl (Nat.le_of_ble_eq_true rfl) ?_
  intro p e s m args below meth c C M
  refine hv_lveq (lv' := [(0, .ref r9), (1, .int (zI ((h : Int)))), (2, .int (zI ((a : Int)))), (3, .int (zI ((b : Int)))), (4, .int (zI ((k : Int))))]) rfl ?_
  refine hv_aload_n C dX9_behind_0 0 rfl ?_
  refine hv_iload_n C dX9_behind_1 1 rfl ?_
  refine hv_iload_n C dX9_behind_2 2 rfl ?_
  refine hv_iload_n C dX9_behind_3 3 rfl ?_
  refine hv_iload C dX9_behind_4 4 rfl ?_
  refine hv_callS (As := [.int (zI ((h : Int))), .int (zI ((a : Int))), .int (zI ((b : Int))), .int (zI ((k : Int)))]) (rest := [.ref r9]) (wc := []) (wr := [(r9, .inl (dA 0, 12, .inl (fun i => zI (g i))))]) C (k_X9_cut l D dA h a b k rfl rfl rfl rfl (by omega) hab hb hk) (va_cwS 4 C.1.2.2.2.2 (hw_S tw_m_RX9_61 tw_t_X9_cut tw_n_RX9 tw_k_X9_cut) rfl rfl rfl (by decide +kernel) ⟨Nat.le_of_ble_eq_true rfl, Nat.le_of_ble_eq_true rfl⟩) (hv_pm [] rfl) rfl rfl (Nat.le_of_ble_eq_true rfl) dX9_behind_6 ⟨Nat.le_of_ble_eq_true rfl, Nat.le_of_ble_eq_true rfl⟩ (fun _ _ => ?_)
  refine hv_eqst (st' := [.int (zI ((sp_cc h (100 * a + 10 * b + k) : Int))), .ref r9]) rfl ?_
  refine hv_weq (ws' := [(r9, .inl (dA 0, 12, .inl (fun i => zI (g i))))]) (rfl) ?_
  refine hv_callS (As := [.ref r9, .int (zI ((sp_cc h (100 * a + 10 * b + k) : Int)))]) (rest := []) (wc := [(r9, .inl (dA 0, 12, .inl (fun i => zI (g i))))]) (wr := []) C (k_X9_blown l D dA r9 g hg (sp_cc h (100 * a + 10 * b + k)) rfl (Nat.lt_of_le_of_lt (sp_cc_le _ _) hh)) (va_cwS 2 C.1.2.2.2.2 (hw_S tw_m_RX9_65 tw_t_X9_blown tw_n_RX9 tw_k_X9_blown) rfl rfl rfl (by decide +kernel) ⟨Nat.le_of_ble_eq_true rfl, Nat.le_of_ble_eq_true rfl⟩) (hv_pm [0] rfl) rfl rfl (Nat.le_of_ble_eq_true rfl) dX9_behind_9 ⟨Nat.le_of_ble_eq_true rfl, Nat.le_of_ble_eq_true rfl⟩ (fun _ _ => ?_)
  refine hv_eqst (st' := [.int (zI ((sp_bh (gS g) (gW g) h (100 * a + 10 * b + k) : Int)))]) rfl ?_
  refine hv_weq (ws' := [(r9, .inl (dA 0, 12, .inl (fun i => zI (g i))))]) (rfl) ?_
  exact hv_iret C M dX9_behind_12 rfl rfl () trivial rfl [] (List.Perm.of_eq (by first | rfl | exact (List.append_nil _).symm)) (Nat.le_refl _) (Nat.le_refl _)

set_option maxHeartbeats 4000000 in
set_option maxRecDepth 100000 in
theorem k_X9_brings (l : Launch) (D : va_G) (dA : Nat → ClassId) (r9 : Nat) (g : Nat → Int) (hg : WF g) {zh zt : Int} (h t : Nat) (eh : zh = (h : Int)) (et : zt = (t : Int)) (hh : h < 4 ^ gS g) (ht : t < 4 ^ gS g) : hv_Ct l yX9_brings (hw_W yX9_brings cX9_brings 3 (some .int)) 2 D dA [.ref r9, .int (zI (zh)), .int (zI (zt))] ([(r9, .inl (dA 0, 12, .inl (fun i => zI (g i))))]) 0 0 (S := Unit) (fun _ => some (.int (zI (sp_fi g h t)))) (fun _ => True) (fun _ => [(r9, .inl (dA 0, 12, .inl (fun i => zI (g i))))]) := by
  subst eh
  subst et
  have hhx := sp_hlt hg.S.2 hh
  have htx := sp_hlt hg.S.2 ht
  have e1 := mz_bl hg.S hh
  have e2 := mz_bl hg.S ht
  refine hv_of (cc := cX9_brings) (maxL := 3) (ret := (some .int)) (own := RX9) rfl (by decide) rfl (Nat.le_of_ble_eq_true rfl) ?_
  intro p e s m args below meth c C M
  refine hv_lveq (lv' := [(0, .ref r9), (1, .int (zI ((h : Int)))), (2, .int (zI ((t : Int))))]) rfl ?_
  refine hv_aload_n C dX9_brings_0 0 rfl ?_
  refine hv_iconst C dX9_brings_1 (v := zI (4)) rfl ?_
  refine hv_iald C dX9_brings_2 0 rfl (4) (rfl) (by omega) (by omega) (v := (zI (g 4))) rfl ?_
  refine hv_aload_n C dX9_brings_3 0 rfl ?_
  refine hv_iload_n C dX9_brings_4 2 rfl ?_
  refine hv_callS (As := [.ref r9, .int (zI ((t : Int)))]) (rest := [.int (zI (g 4))]) (wc := [(r9, .inl (dA 0, 12, .inl (fun i => zI (g i))))]) (wr := []) C (k_X9_bare l D dA r9 g (gS g) hg.e0 hg.S.2 t rfl (by omega)) (va_cwS 2 C.1.2.2.2.2 (hw_S tw_m_RX9_69 tw_t_X9_bare tw_n_RX9 tw_k_X9_bare) rfl rfl rfl (by decide +kernel) ⟨Nat.le_of_ble_eq_true rfl, Nat.le_of_ble_eq_true rfl⟩) (hv_pm [0] rfl) rfl rfl (Nat.le_of_ble_eq_true rfl) dX9_brings_5 ⟨Nat.le_of_ble_eq_true rfl, Nat.le_of_ble_eq_true rfl⟩ (fun _ _ => ?_)
  refine hv_eqst (st' := [.int (zI ((mz_b t (gS g) : Int))), .int (zI (g 4))]) rfl ?_
  refine hv_weq (ws' := [(r9, .inl (dA 0, 12, .inl (fun i => zI (g i))))]) (rfl) ?_
  refine hv_aload_n C dX9_brings_8 0 rfl ?_
  refine hv_iload_n C dX9_brings_9 1 rfl ?_
  refine hv_callS (As := [.ref r9, .int (zI ((h : Int)))]) (rest := [.int (zI ((mz_b t (gS g) : Int))), .int (zI (g 4))]) (wc := [(r9, .inl (dA 0, 12, .inl (fun i => zI (g i))))]) (wr := []) C (k_X9_bare l D dA r9 g (gS g) hg.e0 hg.S.2 h rfl (by omega)) (va_cwS 2 C.1.2.2.2.2 (hw_S tw_m_RX9_69 tw_t_X9_bare tw_n_RX9 tw_k_X9_bare) rfl rfl rfl (by decide +kernel) ⟨Nat.le_of_ble_eq_true rfl, Nat.le_of_ble_eq_true rfl⟩) (hv_pm [0] rfl) rfl rfl (Nat.le_of_ble_eq_true rfl) dX9_brings_10 ⟨Nat.le_of_ble_eq_true rfl, Nat.le_of_ble_eq_true rfl⟩ (fun _ _ => ?_)
  refine hv_eqst (st' := [.int (zI ((mz_b h (gS g) : Int))), .int (zI ((mz_b t (gS g) : Int))), .int (zI (g 4))]) rfl ?_
  refine hv_weq (ws' := [(r9, .inl (dA 0, 12, .inl (fun i => zI (g i))))]) (rfl) ?_
  refine hv_isub C dX9_brings_13 (z := zI ((sp_lc h : Int) - (sp_lc t : Int))) ((zI_sub _ _).trans (zI_c (by omega))) ?_
  refine hv_imul C dX9_brings_14 (zI_mul _ _) ?_
  exact hv_iret C M dX9_brings_15 rfl rfl () trivial rfl [] (List.Perm.of_eq (by first | rfl | exact (List.append_nil _).symm)) (Nat.le_refl _) (Nat.le_refl _)

set_option maxHeartbeats 4000000 in
set_option maxRecDepth 100000 in
theorem k_X9_both (l : Launch) (D : va_G) (dA : Nat → ClassId) (r9 : Nat) (g : Nat → Int) {z : Int} (k : Nat) (ek : z = (k : Int)) (hk : k + 1 < 12) : hv_Ct l yX9_both (hw_W yX9_both cX9_both 2 (some .int)) 0 D dA [.ref r9, .int (zI (z))] ([(r9, .inl (dA 0, 12, .inl (fun i => zI (g i))))]) 0 0 (S := Unit) (fun _ => some (.int (zI (g k + g (k + 1))))) (fun _ => True) (fun _ => [(r9, .inl (dA 0, 12, .inl (fun i => zI (g i))))]) := by
  subst ek
  refine hv_of (cc := cX9_both) (maxL := 2) (ret := (some .int)) (own := RX9) rfl (by decide) rfl (Nat.le_of_ble_eq_true rfl) ?_
  intro p e s m args below meth c C M
  refine hv_lveq (lv' := [(0, .ref r9), (1, .int (zI ((k : Int))))]) rfl ?_
  refine hv_aload_n C dX9_both_0 0 rfl ?_
  refine hv_iload_n C dX9_both_1 1 rfl ?_
  refine hv_iald C dX9_both_2 0 rfl (k) (zI_nat _) (by omega) (by omega) (v := (zI (g k))) rfl ?_
  refine hv_aload_n C dX9_both_3 0 rfl ?_
  refine hv_iload_n C dX9_both_4 1 rfl ?_
  refine hv_iconst C dX9_both_5 (v := zI (1)) rfl ?_
  refine hv_iadd C dX9_both_6 (zI_add _ _) ?_
  refine hv_iald C dX9_both_7 0 rfl (k + 1) (zI_ix (by omega)) (by omega) (by omega) (v := (zI (g (k + 1)))) rfl ?_
  refine hv_iadd C dX9_both_8 (zI_add _ _) ?_
  exact hv_iret C M dX9_both_9 rfl rfl () trivial rfl [] (List.Perm.of_eq (by first | rfl | exact (List.append_nil _).symm)) (Nat.le_refl _) (Nat.le_refl _)

set_option maxHeartbeats 4000000 in
set_option maxRecDepth 100000 in
theorem k_X9_canWater (l : Launch) (D : va_G) (dA : Nat → ClassId) (r9 : Nat) (g : Nat → Int) (hg : WF g) (z : Int) (hz : -2147483648 ≤ z ∧ z < 2147483648) : hv_Ct l yX9_canWater (hw_W yX9_canWater cX9_canWater 2 (some .boolean)) 2 D dA [.ref r9, .int (zI (z))] ([(r9, .inl (dA 0, 12, .inl (fun i => zI (g i))))]) 0 0 (S := Unit) (fun _ => some (.int (zI (zB (ox_cw g z))))) (fun _ => True) (fun _ => [(r9, .inl (dA 0, 12, .inl (fun i => zI (g i))))]) := by
  have hg0 := hg.1
  have hg5 := hg.2.2.2.2.2
  have hge := hg.e0
  have hge5 := hg.e5
  have hgx := hg.x
  refine hv_of (cc := cX9_canWater) (maxL := 2) (ret := (some .boolean)) (own := RX9) rfl (by decide) rfl (Nat.le_of_ble_eq_true rfl) ?_
  intro p e s m args below meth c C M
  refine hv_lveq (lv' := [(0, .ref r9), (1, .int (zI (z)))]) rfl ?_
  refine hv_aload_n C dX9_canWater_0 0 rfl ?_
  refine hv_iload_n C dX9_canWater_1 1 rfl ?_
  refine hv_callS (As := [.ref r9, .int (zI (z))]) (rest := []) (wc := [(r9, .inl (dA 0, 12, .inl (fun i => zI (g i))))]) (wr := []) C (k_X9_isStem l D dA r9 g (by omega) (z) (by omega)) (va_cwS 2 C.1.2.2.2.2 (hw_S tw_m_RX9_53 tw_t_X9_isStem tw_n_RX9 tw_k_X9_isStem) rfl rfl rfl (by decide +kernel) ⟨Nat.le_of_ble_eq_true rfl, Nat.le_of_ble_eq_true rfl⟩) (hv_pm [0] rfl) rfl rfl (Nat.le_of_ble_eq_true rfl) dX9_canWater_2 ⟨Nat.le_of_ble_eq_true rfl, Nat.le_of_ble_eq_true rfl⟩ (fun _ _ => ?_)
  refine hv_eqst (st' := [.int (zI (zB (decide (0 ≤ z ∧ z < g 0))))]) rfl ?_
  refine hv_weq (ws' := [(r9, .inl (dA 0, 12, .inl (fun i => zI (g i))))]) (rfl) ?_
  refine hv_if_eq C dX9_canWater_5 (tgt := 23) (by decide) zB_0 (fun hc5 => ?_) (fun hc5 => ?_)
  · refine hv_iconst C dX9_canWater_23 (v := zI (0)) rfl ?_
    exact hv_iret C M dX9_canWater_24 rfl zB_n2 () trivial (hv_rv (by unfold ox_cw; rw [sp_cw_f (by omega)]; rfl)) [] (List.Perm.of_eq (by first | rfl | exact (List.append_nil _).symm)) (Nat.le_refl _) (Nat.le_refl _)
  · have hc5 := Decidable.not_not.mp hc5
    refine hv_aload_n C dX9_canWater_8 0 rfl ?_
    refine hv_iconst C dX9_canWater_9 (v := zI (1)) rfl ?_
    refine hv_iald C dX9_canWater_10 0 rfl (1) (rfl) (by omega) (by omega) (v := (zI (g 1))) rfl ?_
    refine hv_iload_n C dX9_canWater_11 1 rfl ?_
    refine hv_callS (As := [.int (zI (g 1)), .int (zI (z))]) (rest := []) (wc := []) (wr := [(r9, .inl (dA 0, 12, .inl (fun i => zI (g i))))]) C (k_X9_leavesOf l D dA (gH g) z.toNat hg.e1 (by omega) (by omega) (by omega)) (va_cwS 2 C.1.2.2.2.2 (hw_S tw_m_RX9_47 tw_t_X9_leavesOf tw_n_RX9 tw_k_X9_leavesOf) rfl rfl rfl (by decide +kernel) ⟨Nat.le_of_ble_eq_true rfl, Nat.le_of_ble_eq_true rfl⟩) (hv_pm [] rfl) rfl rfl (Nat.le_of_ble_eq_true rfl) dX9_canWater_12 ⟨Nat.le_of_ble_eq_true rfl, Nat.le_of_ble_eq_true rfl⟩ (fun _ _ => ?_)
    have hdl := sp_dg_lt (gH g) z.toNat
    refine hv_eqst (st' := [.int (zI ((sp_dg (gH g) z.toNat : Int)))]) rfl ?_
    refine hv_weq (ws' := [(r9, .inl (dA 0, 12, .inl (fun i => zI (g i))))]) (rfl) ?_
    refine hv_iconst C dX9_canWater_15 (v := zI (3)) rfl ?_
    refine hv_icmp_ge C dX9_canWater_16 (tgt := 23) (by decide) (zI_le (by omega)) (fun hc16 => ?_) (fun hc16 => ?_)
    · refine hv_iconst C dX9_canWater_23 (v := zI (0)) rfl ?_
      exact hv_iret C M dX9_canWater_24 rfl zB_n2 () trivial (hv_rv (by unfold ox_cw; rw [sp_cw_f (by omega)]; rfl)) [] (List.Perm.of_eq (by first | rfl | exact (List.append_nil _).symm)) (Nat.le_refl _) (Nat.le_refl _)
    · refine hv_iconst C dX9_canWater_19 (v := zI (1)) rfl ?_
      refine hv_goto C dX9_canWater_20 (tgt := 24) (by decide) ?_
      exact hv_iret C M dX9_canWater_24 rfl zB_n1 () trivial (hv_rv (by unfold ox_cw; rw [sp_cw_t (by omega) (by omega)]; rfl)) [] (List.Perm.of_eq (by first | rfl | exact (List.append_nil _).symm)) (Nat.le_refl _) (Nat.le_refl _)

set_option maxHeartbeats 4000000 in
set_option maxRecDepth 100000 in
theorem k_X9_waterOn (l : Launch) (D : va_G) (dA : Nat → ClassId) (r9 : Nat) (g : Nat → Int) (hg : WF g) {z : Int} (i : Nat) (ei : z = (i : Int)) (hi : i < gS g) (hd : ¬ sp_dg (gH g) i = 3) : hv_Ct l yX9_waterOn (hw_W yX9_waterOn cX9_waterOn 2 (some .int)) 1 D dA [.ref r9, .int (zI (z))] ([(r9, .inl (dA 0, 12, .inl (fun i => zI (g i))))]) 0 0 (S := Unit) (fun _ => some (.int (zI (sp_dg (gH g + 4 ^ i) i : Int)))) (fun _ => True) (fun _ => [(r9, .inl (dA 0, 12, .inl (fun j => zI (ox_wat g (i : Int) j))))]) := by
  subst ei
  have hS := hg.S
  have hwl := sp_wat (gS g) (by omega) (gH g) i hg.H hi hd
  have h46 := sp_4S hS.2
  refine hv_of (cc := cX9_waterOn) (maxL := 2) (ret := (some .int)) (own := RX9) rfl (by decide) rfl (Nat.le_of_ble_eq_true rfl) ?_
  intro p e s m args below meth c C M
  refine hv_lveq (lv' := [(0, .ref r9), (1, .int (zI ((i : Int))))]) rfl ?_
  refine hv_aload_n C dX9_waterOn_0 0 rfl ?_
  refine hv_iconst C dX9_waterOn_1 (v := zI (1)) rfl ?_
  refine hv_dup2_11 C dX9_waterOn_2 rfl rfl ?_
  refine hv_iald C dX9_waterOn_3 0 rfl (1) (rfl) (by omega) (by omega) (v := (zI (g 1))) rfl ?_
  refine hv_iconst C dX9_waterOn_4 (v := zI (1)) rfl ?_
  refine hv_iconst C dX9_waterOn_5 (v := zI (2)) rfl ?_
  refine hv_iload_n C dX9_waterOn_6 1 rfl ?_
  refine hv_imul C dX9_waterOn_7 (zI_mul _ _) ?_
  refine hv_ishl C dX9_waterOn_8 rfl ?_
  refine hv_topi (y := zI (((4 ^ i : Nat) : Int))) (by exact sp_sh1 i (by omega)) ?_
  refine hv_iadd C dX9_waterOn_9 (z := zI (((gH g + 4 ^ i : Nat) : Int))) ((zI_add _ _).trans (zI_c (by rw [hg.e1]; omega))) ?_
  refine hv_iast C dX9_waterOn_10 0 rfl (1) (rfl) (by omega) (by omega) ?_
  refine hv_weq (ws' := [(r9, .inl (dA 0, 12, .inl (fun j => zI (ox_wat g (i : Int) j))))]) (by rw [sp_upd]; unfold ox_wat; rw [Int.toNat_natCast]; rfl) ?_
  refine hv_aload_n C dX9_waterOn_11 0 rfl ?_
  refine hv_iconst C dX9_waterOn_12 (v := zI (1)) rfl ?_
  refine hv_iald C dX9_waterOn_13 0 rfl (1) (rfl) (by omega) (by omega) (v := (zI (((gH g + 4 ^ i : Nat) : Int)))) (by show zI (((gH g + 4 ^ ((i : Int)).toNat : Nat) : Int)) = _; rw [Int.toNat_natCast]) ?_
  refine hv_iload_n C dX9_waterOn_14 1 rfl ?_
  refine hv_callS (As := [.int (zI (((gH g + 4 ^ i : Nat) : Int))), .int (zI ((i : Int)))]) (rest := []) (wc := []) (wr := [(r9, .inl (dA 0, 12, .inl (fun j => zI (ox_wat g (i : Int) j))))]) C (k_X9_leavesOf l D dA (gH g + 4 ^ i) (i) (by omega) (by omega) (by omega) (by omega)) (va_cwS 2 C.1.2.2.2.2 (hw_S tw_m_RX9_47 tw_t_X9_leavesOf tw_n_RX9 tw_k_X9_leavesOf) rfl rfl rfl (by decide +kernel) ⟨Nat.le_of_ble_eq_true rfl, Nat.le_of_ble_eq_true rfl⟩) (hv_pm [] rfl) rfl rfl (Nat.le_of_ble_eq_true rfl) dX9_waterOn_15 ⟨Nat.le_of_ble_eq_true rfl, Nat.le_of_ble_eq_true rfl⟩ (fun _ _ => ?_)
  have hdl15 := sp_dg_lt (gH g + 4 ^ i) (i)
  refine hv_eqst (st' := [.int (zI ((sp_dg (gH g + 4 ^ i) (i) : Int)))]) rfl ?_
  refine hv_weq (ws' := [(r9, .inl (dA 0, 12, .inl (fun j => zI (ox_wat g (i : Int) j))))]) (rfl) ?_
  exact hv_iret C M dX9_waterOn_18 rfl rfl () trivial rfl [] (List.Perm.of_eq (by first | rfl | exact (List.append_nil _).symm)) (Nat.le_refl _) (Nat.le_refl _)

set_option maxHeartbeats 4000000 in
set_option maxRecDepth 100000 in
theorem k_X9_windOn (l : Launch) (D : va_G) (dA : Nat → ClassId) (r9 : Nat) (g : Nat → Int) (z : Int) : hv_Ct l yX9_windOn (hw_W yX9_windOn cX9_windOn 3 (some .int)) 0 D dA [.ref r9, .int (zI (z))] ([(r9, .inl (dA 0, 12, .inl (fun i => zI (g i))))]) 0 0 (S := Unit) (fun _ => some (.int (zI (g 2)))) (fun _ => True) (fun _ => [(r9, .inl (dA 0, 12, .inl (fun j => zI (sp_set g 2 z j))))]) := by
  refine hv_of (cc := cX9_windOn) (maxL := 3) (ret := (some .int)) (own := RX9) rfl (by decide) rfl (Nat.le_of_ble_eq_true rfl) ?_
  intro p e s m args below meth c C M
  refine hv_lveq (lv' := [(0, .ref r9), (1, .int (zI (z)))]) rfl ?_
  refine hv_aload_n C dX9_windOn_0 0 rfl ?_
  refine hv_iconst C dX9_windOn_1 (v := zI (2)) rfl ?_
  refine hv_iald C dX9_windOn_2 0 rfl (2) (rfl) (by omega) (by omega) (v := (zI (g 2))) rfl ?_
  refine hv_istore_n C dX9_windOn_3 (lw := [(2, .int (zI (g 2))), (0, .ref r9), (1, .int (zI (z)))]) (by decide) rfl ?_
  refine hv_aload_n C dX9_windOn_4 1 rfl ?_
  refine hv_iconst C dX9_windOn_5 (v := zI (2)) rfl ?_
  refine hv_iload_n C dX9_windOn_6 2 rfl ?_
  refine hv_iast C dX9_windOn_7 0 rfl (2) (rfl) (by omega) (by omega) ?_
  refine hv_weq (ws' := [(r9, .inl (dA 0, 12, .inl (fun j => zI (sp_set g 2 z j))))]) (by rw [sp_upd]; rfl) ?_
  refine hv_iload_n C dX9_windOn_8 0 rfl ?_
  exact hv_iret C M dX9_windOn_9 rfl rfl () trivial rfl [] (List.Perm.of_eq (by first | rfl | exact (List.append_nil _).symm)) (Nat.le_refl _) (Nat.le_refl _)

set_option maxHeartbeats 4000000 in
set_option maxRecDepth 100000 in
theorem k_X9_passOn (l : Launch) (D : va_G) (dA : Nat → ClassId) (r9 : Nat) (g : Nat → Int) : hv_Ct l yX9_passOn (hw_W yX9_passOn cX9_passOn 1 (some .int)) 0 D dA [.ref r9] ([(r9, .inl (dA 0, 12, .inl (fun i => zI (g i))))]) 0 0 (S := Unit) (fun _ => some (.int (zI (1 - g 3)))) (fun _ => True) (fun _ => [(r9, .inl (dA 0, 12, .inl (fun j => zI (ox_ps g j))))]) := by
  refine hv_of (cc := cX9_passOn) (maxL := 1) (ret := (some .int)) (own := RX9) rfl (by decide) rfl (Nat.le_of_ble_eq_true rfl) ?_
  intro p e s m args below meth c C M
  refine hv_lveq (lv' := [(0, .ref r9)]) rfl ?_
  refine hv_aload_n C dX9_passOn_0 0 rfl ?_
  refine hv_iconst C dX9_passOn_1 (v := zI (3)) rfl ?_
  refine hv_iconst C dX9_passOn_2 (v := zI (1)) rfl ?_
  refine hv_aload_n C dX9_passOn_3 0 rfl ?_
  refine hv_iconst C dX9_passOn_4 (v := zI (3)) rfl ?_
  refine hv_iald C dX9_passOn_5 0 rfl (3) (rfl) (by omega) (by omega) (v := (zI (g 3))) rfl ?_
  refine hv_isub C dX9_passOn_6 (zI_sub _ _) ?_
  refine hv_iast C dX9_passOn_7 0 rfl (3) (rfl) (by omega) (by omega) ?_
  refine hv_weq (ws' := [(r9, .inl (dA 0, 12, .inl (fun j => zI (ox_ps g j))))]) (by rw [sp_upd]; rfl) ?_
  refine hv_aload_n C dX9_passOn_8 0 rfl ?_
  refine hv_iconst C dX9_passOn_9 (v := zI (3)) rfl ?_
  refine hv_iald C dX9_passOn_10 0 rfl (3) (rfl) (by omega) (by omega) (v := (zI (1 - g 3))) rfl ?_
  exact hv_iret C M dX9_passOn_11 rfl rfl () trivial rfl [] (List.Perm.of_eq (by first | rfl | exact (List.append_nil _).symm)) (Nat.le_refl _) (Nat.le_refl _)

set_option maxHeartbeats 4000000 in
set_option maxRecDepth 100000 in
theorem k_X9_isSetting (l : Launch) (D : va_G) (dA : Nat → ClassId) (a : Int) (ha : -2147483648 ≤ a ∧ a < 2147483648) (v : Int) (hv : -2147483648 ≤ v ∧ v < 2147483648) : hv_Ct l yX9_isSetting (hw_W yX9_isSetting cX9_isSetting 2 (some .boolean)) 1 D dA [.int (zI (a)), .int (zI (v))] ([]) 0 0 (S := Unit) (fun _ => some (.int (zI (zB (decide (0 ≤ a ∧ a ≤ 1 ∧ 1 ≤ v ∧ v ≤ (if a = 0 then 9 else 3))))))) (fun _ => True) (fun _ => []) := by
  refine hv_of (cc := cX9_isSetting) (maxL := 2) (ret := (some .boolean)) (own := RX9) rfl (by decide) rfl (Nat.le_of_ble_eq_true rfl) ?_
  intro p e s m args below meth c C M
  refine hv_lveq (lv' := [(0, .int (zI (a))), (1, .int (zI (v)))]) rfl ?_
  refine hv_iload_n C dX9_isSetting_0 0 rfl ?_
  refine hv_if_ne C dX9_isSetting_1 (tgt := 16) (by decide) (zI_ne0 (by omega)) (fun hc1 => ?_) (fun hc1 => ?_)
  · refine hv_iload_n C dX9_isSetting_16 0 rfl ?_
    refine hv_iconst C dX9_isSetting_17 (v := zI (1)) rfl ?_
    refine hv_icmp_ne C dX9_isSetting_18 (tgt := 37) (by decide) (zI_ne (by omega)) (fun hc18 => ?_) (fun hc18 => ?_)
    · refine hv_iconst C dX9_isSetting_37 (v := zI (0)) rfl ?_
      exact hv_iret C M dX9_isSetting_38 rfl zB_n2 () trivial (hv_rv (zB_F (by omega))) [] (List.Perm.of_eq (by first | rfl | exact (List.append_nil _).symm)) (Nat.le_refl _) (Nat.le_refl _)
    · refine hv_iload_n C dX9_isSetting_21 1 rfl ?_
      refine hv_i2l C dX9_isSetting_22 (v := (zL (v))) (by exact zL_i (by omega)) ?_
      refine hv_lconst C dX9_isSetting_23 (v := 1) rfl ?_
      refine hv_ldc2 C dX9_isSetting_24 (hw_c tw_o_RX9_51) ?_
      refine hv_eqst (st' := [.long (zL (3)), .long (zL (1)), .long (zL (v))]) (by rfl) ?_
      refine hv_callS (As := [.long (zL (v)), .long (zL (1)), .long (zL (3))]) (rest := []) (wc := []) (wr := []) C (k_X9_in l D dA (v) (by omega) (1) (by omega) (3) (by omega)) (va_cwS 3 C.1.2.2.2.2 (hw_S tw_m_RX9_43 tw_t_X9_in tw_n_RX9 tw_k_X9_in) rfl rfl rfl (by decide +kernel) ⟨Nat.le_of_ble_eq_true rfl, Nat.le_of_ble_eq_true rfl⟩) (hv_pm [] rfl) rfl rfl (Nat.le_of_ble_eq_true rfl) dX9_isSetting_27 ⟨Nat.le_of_ble_eq_true rfl, Nat.le_of_ble_eq_true rfl⟩ (fun _ _ => ?_)
      refine hv_eqst (st' := [.int (zI (zB (decide (1 ≤ v ∧ v ≤ 3))))]) rfl ?_
      refine hv_weq (ws' := []) (rfl) ?_
      refine hv_if_eq C dX9_isSetting_30 (tgt := 37) (by decide) zB_0 (fun hc30 => ?_) (fun hc30 => ?_)
      · refine hv_iconst C dX9_isSetting_37 (v := zI (0)) rfl ?_
        exact hv_iret C M dX9_isSetting_38 rfl zB_n2 () trivial (hv_rv (zB_F (by omega))) [] (List.Perm.of_eq (by first | rfl | exact (List.append_nil _).symm)) (Nat.le_refl _) (Nat.le_refl _)
      · have hc30 := Decidable.not_not.mp hc30
        refine hv_iconst C dX9_isSetting_33 (v := zI (1)) rfl ?_
        refine hv_goto C dX9_isSetting_34 (tgt := 38) (by decide) ?_
        exact hv_iret C M dX9_isSetting_38 rfl zB_n1 () trivial (hv_rv (zB_T (by omega))) [] (List.Perm.of_eq (by first | rfl | exact (List.append_nil _).symm)) (Nat.le_refl _) (Nat.le_refl _)
  · refine hv_iload_n C dX9_isSetting_4 1 rfl ?_
    refine hv_i2l C dX9_isSetting_5 (v := (zL (v))) (by exact zL_i (by omega)) ?_
    refine hv_lconst C dX9_isSetting_6 (v := 1) rfl ?_
    refine hv_ldc2 C dX9_isSetting_7 (hw_c tw_o_RX9_112) ?_
    refine hv_eqst (st' := [.long (zL (9)), .long (zL (1)), .long (zL (v))]) (by rfl) ?_
    refine hv_callS (As := [.long (zL (v)), .long (zL (1)), .long (zL (9))]) (rest := []) (wc := []) (wr := []) C (k_X9_in l D dA (v) (by omega) (1) (by omega) (9) (by omega)) (va_cwS 3 C.1.2.2.2.2 (hw_S tw_m_RX9_43 tw_t_X9_in tw_n_RX9 tw_k_X9_in) rfl rfl rfl (by decide +kernel) ⟨Nat.le_of_ble_eq_true rfl, Nat.le_of_ble_eq_true rfl⟩) (hv_pm [] rfl) rfl rfl (Nat.le_of_ble_eq_true rfl) dX9_isSetting_10 ⟨Nat.le_of_ble_eq_true rfl, Nat.le_of_ble_eq_true rfl⟩ (fun _ _ => ?_)
    refine hv_eqst (st' := [.int (zI (zB (decide (1 ≤ v ∧ v ≤ 9))))]) rfl ?_
    refine hv_weq (ws' := []) (rfl) ?_
    refine hv_if_ne C dX9_isSetting_13 (tgt := 33) (by decide) zB_n0 (fun hc13 => ?_) (fun hc13 => ?_)
    · refine hv_iconst C dX9_isSetting_33 (v := zI (1)) rfl ?_
      refine hv_goto C dX9_isSetting_34 (tgt := 38) (by decide) ?_
      exact hv_iret C M dX9_isSetting_38 rfl zB_n1 () trivial (hv_rv (zB_T (by omega))) [] (List.Perm.of_eq (by first | rfl | exact (List.append_nil _).symm)) (Nat.le_refl _) (Nat.le_refl _)
    · refine hv_iload_n C dX9_isSetting_16 0 rfl ?_
      refine hv_iconst C dX9_isSetting_17 (v := zI (1)) rfl ?_
      refine hv_icmp_ne C dX9_isSetting_18 (tgt := 37) (by decide) (zI_ne (by omega)) (fun hc18 => ?_) (fun hc18 => ?_)
      · refine hv_iconst C dX9_isSetting_37 (v := zI (0)) rfl ?_
        exact hv_iret C M dX9_isSetting_38 rfl zB_n2 () trivial (hv_rv (zB_F (by omega))) [] (List.Perm.of_eq (by first | rfl | exact (List.append_nil _).symm)) (Nat.le_refl _) (Nat.le_refl _)
      · refine hv_iload_n C dX9_isSetting_21 1 rfl ?_
        refine hv_i2l C dX9_isSetting_22 (v := (zL (v))) (by exact zL_i (by omega)) ?_
        refine hv_lconst C dX9_isSetting_23 (v := 1) rfl ?_
        refine hv_ldc2 C dX9_isSetting_24 (hw_c tw_o_RX9_51) ?_
        refine hv_eqst (st' := [.long (zL (3)), .long (zL (1)), .long (zL (v))]) (by rfl) ?_
        refine hv_callS (As := [.long (zL (v)), .long (zL (1)), .long (zL (3))]) (rest := []) (wc := []) (wr := []) C (k_X9_in l D dA (v) (by omega) (1) (by omega) (3) (by omega)) (va_cwS 3 C.1.2.2.2.2 (hw_S tw_m_RX9_43 tw_t_X9_in tw_n_RX9 tw_k_X9_in) rfl rfl rfl (by decide +kernel) ⟨Nat.le_of_ble_eq_true rfl, Nat.le_of_ble_eq_true rfl⟩) (hv_pm [] rfl) rfl rfl (Nat.le_of_ble_eq_true rfl) dX9_isSetting_27 ⟨Nat.le_of_ble_eq_true rfl, Nat.le_of_ble_eq_true rfl⟩ (fun _ _ => ?_)
        refine hv_eqst (st' := [.int (zI (zB (decide (1 ≤ v ∧ v ≤ 3))))]) rfl ?_
        refine hv_weq (ws' := []) (rfl) ?_
        refine hv_if_eq C dX9_isSetting_30 (tgt := 37) (by decide) zB_0 (fun hc30 => ?_) (fun hc30 => ?_)
        · refine hv_iconst C dX9_isSetting_37 (v := zI (0)) rfl ?_
          exact hv_iret C M dX9_isSetting_38 rfl zB_n2 () trivial (hv_rv (zB_F (by omega))) [] (List.Perm.of_eq (by first | rfl | exact (List.append_nil _).symm)) (Nat.le_refl _) (Nat.le_refl _)
        · have hc30 := Decidable.not_not.mp hc30
          refine hv_iconst C dX9_isSetting_33 (v := zI (1)) rfl ?_
          refine hv_goto C dX9_isSetting_34 (tgt := 38) (by decide) ?_
          exact hv_iret C M dX9_isSetting_38 rfl zB_n1 () trivial (hv_rv (zB_T (by omega))) [] (List.Perm.of_eq (by first | rfl | exact (List.append_nil _).symm)) (Nat.le_refl _) (Nat.le_refl _)

set_option maxHeartbeats 4000000 in
set_option maxRecDepth 100000 in
theorem k_X9_clipOn (l : Launch) (D : va_G) (dA : Nat → ClassId) (r9 : Nat) (g : Nat → Int) (hg : WF g) {za zb zk : Int} (a b k : Nat) (ea : za = (a : Int)) (eb : zb = (b : Int)) (ek : zk = (k : Int)) (hab : a ≤ b) (hb : b < 6) (hk : k < 4) : hv_Ct l yX9_clipOn (hw_W yX9_clipOn cX9_clipOn 7 (some .int)) 4 D dA [.ref r9, .int (zI (za)), .int (zI (zb)), .int (zI (zk))] ([(r9, .inl (dA 0, 12, .inl (fun i => zI (g i))))]) 0 0 (S := Unit) (fun _ => some (.int (zI (sp_fi g (gH g) (sp_bh (gS g) (gW g) (gH g) (100 * a + 10 * b + k)))))) (fun _ => True) (fun _ => [(r9, .inl (dA 0, 12, .inl (fun i => zI ((ox_clip g (100 * a + 10 * b + k)) i))))]) := by
  subst ea
  subst eb
  subst ek
  have hgx := hg.x
  have hbx := Nat.lt_of_le_of_lt (sp_bh_le (gS g) (gW g) (gH g) (100 * a + 10 * b + k)) hgx
  have hg3 := hg.2.2.2.1
  refine hv_of (cc := cX9_clipOn) (maxL := 7) (ret := (some .int)) (own := RX9) rfl (by decide) rfl (Nat.le_of_ble_eq_true rfl) ?_
  intro p e s m args below meth c C M
  refine hv_lveq (lv' := [(0, .ref r9), (1, .int (zI ((a : Int)))), (2, .int (zI ((b : Int)))), (3, .int (zI ((k : Int))))]) rfl ?_
  rcases (show g 3 = 0 ∨ g 3 = 1 by omega) with e3 | e3
  · refine hv_aload_n C dX9_clipOn_0 0 rfl ?_
    refine hv_iconst C dX9_clipOn_1 (v := zI (3)) rfl ?_
    refine hv_iald C dX9_clipOn_2 0 rfl (3) (rfl) (by omega) (by omega) (v := (zI (g 3))) rfl ?_
    refine hv_istore C dX9_clipOn_3 (lw := [(4, .int (zI (g 3))), (0, .ref r9), (1, .int (zI ((a : Int)))), (2, .int (zI ((b : Int)))), (3, .int (zI ((k : Int))))]) (by decide) rfl ?_
    refine hv_aload_n C dX9_clipOn_5 1 rfl ?_
    refine hv_aload_n C dX9_clipOn_6 1 rfl ?_
    refine hv_iconst C dX9_clipOn_7 (v := zI (1)) rfl ?_
    refine hv_iald C dX9_clipOn_8 0 rfl (1) (rfl) (by omega) (by omega) (v := (zI (g 1))) rfl ?_
    refine hv_iload_n C dX9_clipOn_9 2 rfl ?_
    refine hv_iload_n C dX9_clipOn_10 3 rfl ?_
    refine hv_iload_n C dX9_clipOn_11 4 rfl ?_
    refine hv_callS (As := [.ref r9, .int (zI (g 1)), .int (zI ((a : Int))), .int (zI ((b : Int))), .int (zI ((k : Int)))]) (rest := []) (wc := [(r9, .inl (dA 0, 12, .inl (fun i => zI (g i))))]) (wr := []) C (k_X9_behind l D dA r9 g hg (gH g) hg.e1 hg.H a b k rfl rfl rfl hab hb hk) (va_cwS 5 C.1.2.2.2.2 (hw_S tw_m_RX9_72 tw_t_X9_behind tw_n_RX9 tw_k_X9_behind) rfl rfl rfl (by decide +kernel) ⟨Nat.le_of_ble_eq_true rfl, Nat.le_of_ble_eq_true rfl⟩) (hv_pm [0] rfl) rfl rfl (Nat.le_of_ble_eq_true rfl) dX9_clipOn_12 ⟨Nat.le_of_ble_eq_true rfl, Nat.le_of_ble_eq_true rfl⟩ (fun _ _ => ?_)
    refine hv_eqst (st' := [.int (zI ((sp_bh (gS g) (gW g) (gH g) (100 * a + 10 * b + k) : Int)))]) rfl ?_
    refine hv_weq (ws' := [(r9, .inl (dA 0, 12, .inl (fun i => zI (g i))))]) (rfl) ?_
    refine hv_istore C dX9_clipOn_15 (lw := [(5, .int (zI ((sp_bh (gS g) (gW g) (gH g) (100 * a + 10 * b + k) : Int)))), (4, .int (zI (g 3))), (0, .ref r9), (1, .int (zI ((a : Int)))), (2, .int (zI ((b : Int)))), (3, .int (zI ((k : Int))))]) (by decide) rfl ?_
    refine hv_aload_n C dX9_clipOn_17 2 rfl ?_
    refine hv_aload_n C dX9_clipOn_18 2 rfl ?_
    refine hv_iconst C dX9_clipOn_19 (v := zI (1)) rfl ?_
    refine hv_iald C dX9_clipOn_20 0 rfl (1) (rfl) (by omega) (by omega) (v := (zI (g 1))) rfl ?_
    refine hv_iload C dX9_clipOn_21 0 rfl ?_
    refine hv_callS (As := [.ref r9, .int (zI (g 1)), .int (zI ((sp_bh (gS g) (gW g) (gH g) (100 * a + 10 * b + k) : Int)))]) (rest := []) (wc := [(r9, .inl (dA 0, 12, .inl (fun i => zI (g i))))]) (wr := []) C (k_X9_brings l D dA r9 g hg (gH g) (sp_bh (gS g) (gW g) (gH g) (100 * a + 10 * b + k)) hg.e1 rfl hg.H (Nat.lt_of_le_of_lt (sp_bh_le _ _ _ _) hg.H)) (va_cwS 3 C.1.2.2.2.2 (hw_S tw_m_RX9_76 tw_t_X9_brings tw_n_RX9 tw_k_X9_brings) rfl rfl rfl (by decide +kernel) ⟨Nat.le_of_ble_eq_true rfl, Nat.le_of_ble_eq_true rfl⟩) (hv_pm [0] rfl) rfl rfl (Nat.le_of_ble_eq_true rfl) dX9_clipOn_23 ⟨Nat.le_of_ble_eq_true rfl, Nat.le_of_ble_eq_true rfl⟩ (fun _ _ => ?_)
    refine hv_eqst (st' := [.int (zI (sp_fi g (gH g) (sp_bh (gS g) (gW g) (gH g) (100 * a + 10 * b + k))))]) rfl ?_
    refine hv_weq (ws' := [(r9, .inl (dA 0, 12, .inl (fun i => zI (g i))))]) (rfl) ?_
    refine hv_istore C dX9_clipOn_26 (lw := [(6, .int (zI (sp_fi g (gH g) (sp_bh (gS g) (gW g) (gH g) (100 * a + 10 * b + k))))), (5, .int (zI ((sp_bh (gS g) (gW g) (gH g) (100 * a + 10 * b + k) : Int)))), (4, .int (zI (g 3))), (0, .ref r9), (1, .int (zI ((a : Int)))), (2, .int (zI ((b : Int)))), (3, .int (zI ((k : Int))))]) (by decide) rfl ?_
    refine hv_aload_n C dX9_clipOn_28 3 rfl ?_
    refine hv_bipush C dX9_clipOn_29 (v := zI (6)) (by decide +kernel) ?_
    refine hv_iload C dX9_clipOn_31 2 rfl ?_
    refine hv_iadd C dX9_clipOn_33 (zI_add _ _) ?_
    refine hv_dup2_11 C dX9_clipOn_34 rfl rfl ?_
    refine hv_iald C dX9_clipOn_35 0 rfl (6) (zI_ix (by omega)) (by omega) (by omega) (v := (zI (g 6))) rfl ?_
    refine hv_iload C dX9_clipOn_36 0 rfl ?_
    refine hv_iadd C dX9_clipOn_38 (zI_add _ _) ?_
    refine hv_iast C dX9_clipOn_39 0 rfl (6) (zI_ix (by omega)) (by omega) (by omega) ?_
    refine hv_weq (ws' := [(r9, .inl (dA 0, 12, .inl (fun i => zI ((sp_set (g) 6 ((g 6) + (sp_fi g (gH g) (sp_bh (gS g) (gW g) (gH g) (100 * a + 10 * b + k))))) i))))]) (by rw [sp_upd]; rfl) ?_
    refine hv_aload_n C dX9_clipOn_40 3 rfl ?_
    refine hv_bipush C dX9_clipOn_41 (v := zI (8)) (by decide +kernel) ?_
    refine hv_iload C dX9_clipOn_43 2 rfl ?_
    refine hv_iadd C dX9_clipOn_45 (zI_add _ _) ?_
    refine hv_dup2_11 C dX9_clipOn_46 rfl rfl ?_
    refine hv_iald C dX9_clipOn_47 0 rfl (8) (zI_ix (by omega)) (by omega) (by omega) (v := (zI (g 8))) rfl ?_
    refine hv_iconst C dX9_clipOn_48 (v := zI (1)) rfl ?_
    refine hv_iadd C dX9_clipOn_49 (zI_add _ _) ?_
    refine hv_iast C dX9_clipOn_50 0 rfl (8) (zI_ix (by omega)) (by omega) (by omega) ?_
    refine hv_weq (ws' := [(r9, .inl (dA 0, 12, .inl (fun i => zI ((sp_set (sp_set (g) 6 ((g 6) + (sp_fi g (gH g) (sp_bh (gS g) (gW g) (gH g) (100 * a + 10 * b + k))))) 8 ((g 8) + (1))) i))))]) (by rw [sp_upd]; rfl) ?_
    refine hv_aload_n C dX9_clipOn_51 3 rfl ?_
    refine hv_bipush C dX9_clipOn_52 (v := zI (10)) (by decide +kernel) ?_
    refine hv_iload C dX9_clipOn_54 2 rfl ?_
    refine hv_iadd C dX9_clipOn_56 (zI_add _ _) ?_
    refine hv_dup2_11 C dX9_clipOn_57 rfl rfl ?_
    refine hv_iald C dX9_clipOn_58 0 rfl (10) (zI_ix (by omega)) (by omega) (by omega) (v := (zI (g 10))) rfl ?_
    refine hv_aload_n C dX9_clipOn_59 3 rfl ?_
    refine hv_iconst C dX9_clipOn_60 (v := zI (1)) rfl ?_
    refine hv_iald C dX9_clipOn_61 0 rfl (1) (rfl) (by omega) (by omega) (v := (zI (g 1))) rfl ?_
    refine hv_callS (As := [.int (zI (g 1))]) (rest := [.int (zI (g 10)), .int (zI ((10) + (g 3))), .ref r9]) (wc := []) (wr := [(r9, .inl (dA 0, 12, .inl (fun i => zI ((sp_set (sp_set (g) 6 ((g 6) + (sp_fi g (gH g) (sp_bh (gS g) (gW g) (gH g) (100 * a + 10 * b + k))))) 8 ((g 8) + (1))) i))))]) C (k_X9_count l D dA (gH g) hg.e1 (by omega)) (va_cwS 1 C.1.2.2.2.2 (hw_S tw_m_RX9_101 tw_t_X9_count tw_n_RX9 tw_k_X9_count) rfl rfl rfl (by decide +kernel) ⟨Nat.le_of_ble_eq_true rfl, Nat.le_of_ble_eq_true rfl⟩) (hv_pm [] rfl) rfl rfl (Nat.le_of_ble_eq_true rfl) dX9_clipOn_62 ⟨Nat.le_of_ble_eq_true rfl, Nat.le_of_ble_eq_true rfl⟩ (fun _ _ => ?_)
    refine hv_eqst (st' := [.int (zI ((sp_lv (gH g) : Int))), .int (zI (g 10)), .int (zI ((10) + (g 3))), .ref r9]) rfl ?_
    refine hv_weq (ws' := [(r9, .inl (dA 0, 12, .inl (fun i => zI ((sp_set (sp_set (g) 6 ((g 6) + (sp_fi g (gH g) (sp_bh (gS g) (gW g) (gH g) (100 * a + 10 * b + k))))) 8 ((g 8) + (1))) i))))]) (rfl) ?_
    refine hv_iload C dX9_clipOn_65 1 rfl ?_
    refine hv_callS (As := [.int (zI ((sp_bh (gS g) (gW g) (gH g) (100 * a + 10 * b + k) : Int)))]) (rest := [.int (zI ((sp_lv (gH g) : Int))), .int (zI (g 10)), .int (zI ((10) + (g 3))), .ref r9]) (wc := []) (wr := [(r9, .inl (dA 0, 12, .inl (fun i => zI ((sp_set (sp_set (g) 6 ((g 6) + (sp_fi g (gH g) (sp_bh (gS g) (gW g) (gH g) (100 * a + 10 * b + k))))) 8 ((g 8) + (1))) i))))]) C (k_X9_count l D dA (sp_bh (gS g) (gW g) (gH g) (100 * a + 10 * b + k)) rfl (by omega)) (va_cwS 1 C.1.2.2.2.2 (hw_S tw_m_RX9_101 tw_t_X9_count tw_n_RX9 tw_k_X9_count) rfl rfl rfl (by decide +kernel) ⟨Nat.le_of_ble_eq_true rfl, Nat.le_of_ble_eq_true rfl⟩) (hv_pm [] rfl) rfl rfl (Nat.le_of_ble_eq_true rfl) dX9_clipOn_67 ⟨Nat.le_of_ble_eq_true rfl, Nat.le_of_ble_eq_true rfl⟩ (fun _ _ => ?_)
    refine hv_eqst (st' := [.int (zI ((sp_lv (sp_bh (gS g) (gW g) (gH g) (100 * a + 10 * b + k)) : Int))), .int (zI ((sp_lv (gH g) : Int))), .int (zI (g 10)), .int (zI ((10) + (g 3))), .ref r9]) rfl ?_
    refine hv_weq (ws' := [(r9, .inl (dA 0, 12, .inl (fun i => zI ((sp_set (sp_set (g) 6 ((g 6) + (sp_fi g (gH g) (sp_bh (gS g) (gW g) (gH g) (100 * a + 10 * b + k))))) 8 ((g 8) + (1))) i))))]) (rfl) ?_
    refine hv_isub C dX9_clipOn_70 (zI_sub _ _) ?_
    refine hv_iadd C dX9_clipOn_71 (zI_add _ _) ?_
    refine hv_iast C dX9_clipOn_72 0 rfl (10) (zI_ix (by omega)) (by omega) (by omega) ?_
    refine hv_weq (ws' := [(r9, .inl (dA 0, 12, .inl (fun i => zI ((sp_set (sp_set (sp_set (g) 6 ((g 6) + (sp_fi g (gH g) (sp_bh (gS g) (gW g) (gH g) (100 * a + 10 * b + k))))) 8 ((g 8) + (1))) 10 ((g 10) + (((sp_lv (gH g) : Int)) - ((sp_lv (sp_bh (gS g) (gW g) (gH g) (100 * a + 10 * b + k)) : Int))))) i))))]) (by rw [sp_upd]; rfl) ?_
    refine hv_aload_n C dX9_clipOn_73 3 rfl ?_
    refine hv_iconst C dX9_clipOn_74 (v := zI (1)) rfl ?_
    refine hv_iload C dX9_clipOn_75 1 rfl ?_
    refine hv_iast C dX9_clipOn_77 0 rfl (1) (rfl) (by omega) (by omega) ?_
    refine hv_weq (ws' := [(r9, .inl (dA 0, 12, .inl (fun i => zI ((sp_set (sp_set (sp_set (sp_set (g) 6 ((g 6) + (sp_fi g (gH g) (sp_bh (gS g) (gW g) (gH g) (100 * a + 10 * b + k))))) 8 ((g 8) + (1))) 10 ((g 10) + (((sp_lv (gH g) : Int)) - ((sp_lv (sp_bh (gS g) (gW g) (gH g) (100 * a + 10 * b + k)) : Int))))) 1 ((sp_bh (gS g) (gW g) (gH g) (100 * a + 10 * b + k) : Int))) i))))]) (by rw [sp_upd]; rfl) ?_
    refine hv_aload_n C dX9_clipOn_78 3 rfl ?_
    refine hv_iconst C dX9_clipOn_79 (v := zI (3)) rfl ?_
    refine hv_iconst C dX9_clipOn_80 (v := zI (1)) rfl ?_
    refine hv_iload C dX9_clipOn_81 2 rfl ?_
    refine hv_isub C dX9_clipOn_83 (zI_sub _ _) ?_
    refine hv_iast C dX9_clipOn_84 0 rfl (3) (rfl) (by omega) (by omega) ?_
    refine hv_weq (ws' := [(r9, .inl (dA 0, 12, .inl (fun i => zI ((sp_set (sp_set (sp_set (sp_set (sp_set (g) 6 ((g 6) + (sp_fi g (gH g) (sp_bh (gS g) (gW g) (gH g) (100 * a + 10 * b + k))))) 8 ((g 8) + (1))) 10 ((g 10) + (((sp_lv (gH g) : Int)) - ((sp_lv (sp_bh (gS g) (gW g) (gH g) (100 * a + 10 * b + k)) : Int))))) 1 ((sp_bh (gS g) (gW g) (gH g) (100 * a + 10 * b + k) : Int))) 3 ((1) - (g 3))) i))))]) (by rw [sp_upd]; rfl) ?_
    refine hv_acg 0 (f' := fun i => zI ((ox_clip g (100 * a + 10 * b + k)) i)) rfl (fun i hi => ?_) rfl ?_
    · rcases (show i = 0 ∨ i = 1 ∨ i = 2 ∨ i = 3 ∨ i = 4 ∨ i = 5 ∨ i = 6 ∨ i = 7 ∨ i = 8 ∨ i = 9 ∨ i = 10 ∨ i = 11 by omega) with rfl | rfl | rfl | rfl | rfl | rfl | rfl | rfl | rfl | rfl | rfl | rfl <;> simp [ox_clip, sp_do, sp_set, e3]
    refine hv_iload C dX9_clipOn_85 0 rfl ?_
    exact hv_iret C M dX9_clipOn_87 rfl rfl () trivial rfl [] (List.Perm.of_eq (by first | rfl | exact (List.append_nil _).symm)) (Nat.le_refl _) (Nat.le_refl _)
  · refine hv_aload_n C dX9_clipOn_0 0 rfl ?_
    refine hv_iconst C dX9_clipOn_1 (v := zI (3)) rfl ?_
    refine hv_iald C dX9_clipOn_2 0 rfl (3) (rfl) (by omega) (by omega) (v := (zI (g 3))) rfl ?_
    refine hv_istore C dX9_clipOn_3 (lw := [(4, .int (zI (g 3))), (0, .ref r9), (1, .int (zI ((a : Int)))), (2, .int (zI ((b : Int)))), (3, .int (zI ((k : Int))))]) (by decide) rfl ?_
    refine hv_aload_n C dX9_clipOn_5 1 rfl ?_
    refine hv_aload_n C dX9_clipOn_6 1 rfl ?_
    refine hv_iconst C dX9_clipOn_7 (v := zI (1)) rfl ?_
    refine hv_iald C dX9_clipOn_8 0 rfl (1) (rfl) (by omega) (by omega) (v := (zI (g 1))) rfl ?_
    refine hv_iload_n C dX9_clipOn_9 2 rfl ?_
    refine hv_iload_n C dX9_clipOn_10 3 rfl ?_
    refine hv_iload_n C dX9_clipOn_11 4 rfl ?_
    refine hv_callS (As := [.ref r9, .int (zI (g 1)), .int (zI ((a : Int))), .int (zI ((b : Int))), .int (zI ((k : Int)))]) (rest := []) (wc := [(r9, .inl (dA 0, 12, .inl (fun i => zI (g i))))]) (wr := []) C (k_X9_behind l D dA r9 g hg (gH g) hg.e1 hg.H a b k rfl rfl rfl hab hb hk) (va_cwS 5 C.1.2.2.2.2 (hw_S tw_m_RX9_72 tw_t_X9_behind tw_n_RX9 tw_k_X9_behind) rfl rfl rfl (by decide +kernel) ⟨Nat.le_of_ble_eq_true rfl, Nat.le_of_ble_eq_true rfl⟩) (hv_pm [0] rfl) rfl rfl (Nat.le_of_ble_eq_true rfl) dX9_clipOn_12 ⟨Nat.le_of_ble_eq_true rfl, Nat.le_of_ble_eq_true rfl⟩ (fun _ _ => ?_)
    refine hv_eqst (st' := [.int (zI ((sp_bh (gS g) (gW g) (gH g) (100 * a + 10 * b + k) : Int)))]) rfl ?_
    refine hv_weq (ws' := [(r9, .inl (dA 0, 12, .inl (fun i => zI (g i))))]) (rfl) ?_
    refine hv_istore C dX9_clipOn_15 (lw := [(5, .int (zI ((sp_bh (gS g) (gW g) (gH g) (100 * a + 10 * b + k) : Int)))), (4, .int (zI (g 3))), (0, .ref r9), (1, .int (zI ((a : Int)))), (2, .int (zI ((b : Int)))), (3, .int (zI ((k : Int))))]) (by decide) rfl ?_
    refine hv_aload_n C dX9_clipOn_17 2 rfl ?_
    refine hv_aload_n C dX9_clipOn_18 2 rfl ?_
    refine hv_iconst C dX9_clipOn_19 (v := zI (1)) rfl ?_
    refine hv_iald C dX9_clipOn_20 0 rfl (1) (rfl) (by omega) (by omega) (v := (zI (g 1))) rfl ?_
    refine hv_iload C dX9_clipOn_21 0 rfl ?_
    refine hv_callS (As := [.ref r9, .int (zI (g 1)), .int (zI ((sp_bh (gS g) (gW g) (gH g) (100 * a + 10 * b + k) : Int)))]) (rest := []) (wc := [(r9, .inl (dA 0, 12, .inl (fun i => zI (g i))))]) (wr := []) C (k_X9_brings l D dA r9 g hg (gH g) (sp_bh (gS g) (gW g) (gH g) (100 * a + 10 * b + k)) hg.e1 rfl hg.H (Nat.lt_of_le_of_lt (sp_bh_le _ _ _ _) hg.H)) (va_cwS 3 C.1.2.2.2.2 (hw_S tw_m_RX9_76 tw_t_X9_brings tw_n_RX9 tw_k_X9_brings) rfl rfl rfl (by decide +kernel) ⟨Nat.le_of_ble_eq_true rfl, Nat.le_of_ble_eq_true rfl⟩) (hv_pm [0] rfl) rfl rfl (Nat.le_of_ble_eq_true rfl) dX9_clipOn_23 ⟨Nat.le_of_ble_eq_true rfl, Nat.le_of_ble_eq_true rfl⟩ (fun _ _ => ?_)
    refine hv_eqst (st' := [.int (zI (sp_fi g (gH g) (sp_bh (gS g) (gW g) (gH g) (100 * a + 10 * b + k))))]) rfl ?_
    refine hv_weq (ws' := [(r9, .inl (dA 0, 12, .inl (fun i => zI (g i))))]) (rfl) ?_
    refine hv_istore C dX9_clipOn_26 (lw := [(6, .int (zI (sp_fi g (gH g) (sp_bh (gS g) (gW g) (gH g) (100 * a + 10 * b + k))))), (5, .int (zI ((sp_bh (gS g) (gW g) (gH g) (100 * a + 10 * b + k) : Int)))), (4, .int (zI (g 3))), (0, .ref r9), (1, .int (zI ((a : Int)))), (2, .int (zI ((b : Int)))), (3, .int (zI ((k : Int))))]) (by decide) rfl ?_
    refine hv_aload_n C dX9_clipOn_28 3 rfl ?_
    refine hv_bipush C dX9_clipOn_29 (v := zI (6)) (by decide +kernel) ?_
    refine hv_iload C dX9_clipOn_31 2 rfl ?_
    refine hv_iadd C dX9_clipOn_33 (zI_add _ _) ?_
    refine hv_dup2_11 C dX9_clipOn_34 rfl rfl ?_
    refine hv_iald C dX9_clipOn_35 0 rfl (7) (zI_ix (by omega)) (by omega) (by omega) (v := (zI (g 7))) rfl ?_
    refine hv_iload C dX9_clipOn_36 0 rfl ?_
    refine hv_iadd C dX9_clipOn_38 (zI_add _ _) ?_
    refine hv_iast C dX9_clipOn_39 0 rfl (7) (zI_ix (by omega)) (by omega) (by omega) ?_
    refine hv_weq (ws' := [(r9, .inl (dA 0, 12, .inl (fun i => zI ((sp_set (g) 7 ((g 7) + (sp_fi g (gH g) (sp_bh (gS g) (gW g) (gH g) (100 * a + 10 * b + k))))) i))))]) (by rw [sp_upd]; rfl) ?_
    refine hv_aload_n C dX9_clipOn_40 3 rfl ?_
    refine hv_bipush C dX9_clipOn_41 (v := zI (8)) (by decide +kernel) ?_
    refine hv_iload C dX9_clipOn_43 2 rfl ?_
    refine hv_iadd C dX9_clipOn_45 (zI_add _ _) ?_
    refine hv_dup2_11 C dX9_clipOn_46 rfl rfl ?_
    refine hv_iald C dX9_clipOn_47 0 rfl (9) (zI_ix (by omega)) (by omega) (by omega) (v := (zI (g 9))) rfl ?_
    refine hv_iconst C dX9_clipOn_48 (v := zI (1)) rfl ?_
    refine hv_iadd C dX9_clipOn_49 (zI_add _ _) ?_
    refine hv_iast C dX9_clipOn_50 0 rfl (9) (zI_ix (by omega)) (by omega) (by omega) ?_
    refine hv_weq (ws' := [(r9, .inl (dA 0, 12, .inl (fun i => zI ((sp_set (sp_set (g) 7 ((g 7) + (sp_fi g (gH g) (sp_bh (gS g) (gW g) (gH g) (100 * a + 10 * b + k))))) 9 ((g 9) + (1))) i))))]) (by rw [sp_upd]; rfl) ?_
    refine hv_aload_n C dX9_clipOn_51 3 rfl ?_
    refine hv_bipush C dX9_clipOn_52 (v := zI (10)) (by decide +kernel) ?_
    refine hv_iload C dX9_clipOn_54 2 rfl ?_
    refine hv_iadd C dX9_clipOn_56 (zI_add _ _) ?_
    refine hv_dup2_11 C dX9_clipOn_57 rfl rfl ?_
    refine hv_iald C dX9_clipOn_58 0 rfl (11) (zI_ix (by omega)) (by omega) (by omega) (v := (zI (g 11))) rfl ?_
    refine hv_aload_n C dX9_clipOn_59 3 rfl ?_
    refine hv_iconst C dX9_clipOn_60 (v := zI (1)) rfl ?_
    refine hv_iald C dX9_clipOn_61 0 rfl (1) (rfl) (by omega) (by omega) (v := (zI (g 1))) rfl ?_
    refine hv_callS (As := [.int (zI (g 1))]) (rest := [.int (zI (g 11)), .int (zI ((10) + (g 3))), .ref r9]) (wc := []) (wr := [(r9, .inl (dA 0, 12, .inl (fun i => zI ((sp_set (sp_set (g) 7 ((g 7) + (sp_fi g (gH g) (sp_bh (gS g) (gW g) (gH g) (100 * a + 10 * b + k))))) 9 ((g 9) + (1))) i))))]) C (k_X9_count l D dA (gH g) hg.e1 (by omega)) (va_cwS 1 C.1.2.2.2.2 (hw_S tw_m_RX9_101 tw_t_X9_count tw_n_RX9 tw_k_X9_count) rfl rfl rfl (by decide +kernel) ⟨Nat.le_of_ble_eq_true rfl, Nat.le_of_ble_eq_true rfl⟩) (hv_pm [] rfl) rfl rfl (Nat.le_of_ble_eq_true rfl) dX9_clipOn_62 ⟨Nat.le_of_ble_eq_true rfl, Nat.le_of_ble_eq_true rfl⟩ (fun _ _ => ?_)
    refine hv_eqst (st' := [.int (zI ((sp_lv (gH g) : Int))), .int (zI (g 11)), .int (zI ((10) + (g 3))), .ref r9]) rfl ?_
    refine hv_weq (ws' := [(r9, .inl (dA 0, 12, .inl (fun i => zI ((sp_set (sp_set (g) 7 ((g 7) + (sp_fi g (gH g) (sp_bh (gS g) (gW g) (gH g) (100 * a + 10 * b + k))))) 9 ((g 9) + (1))) i))))]) (rfl) ?_
    refine hv_iload C dX9_clipOn_65 1 rfl ?_
    refine hv_callS (As := [.int (zI ((sp_bh (gS g) (gW g) (gH g) (100 * a + 10 * b + k) : Int)))]) (rest := [.int (zI ((sp_lv (gH g) : Int))), .int (zI (g 11)), .int (zI ((10) + (g 3))), .ref r9]) (wc := []) (wr := [(r9, .inl (dA 0, 12, .inl (fun i => zI ((sp_set (sp_set (g) 7 ((g 7) + (sp_fi g (gH g) (sp_bh (gS g) (gW g) (gH g) (100 * a + 10 * b + k))))) 9 ((g 9) + (1))) i))))]) C (k_X9_count l D dA (sp_bh (gS g) (gW g) (gH g) (100 * a + 10 * b + k)) rfl (by omega)) (va_cwS 1 C.1.2.2.2.2 (hw_S tw_m_RX9_101 tw_t_X9_count tw_n_RX9 tw_k_X9_count) rfl rfl rfl (by decide +kernel) ⟨Nat.le_of_ble_eq_true rfl, Nat.le_of_ble_eq_true rfl⟩) (hv_pm [] rfl) rfl rfl (Nat.le_of_ble_eq_true rfl) dX9_clipOn_67 ⟨Nat.le_of_ble_eq_true rfl, Nat.le_of_ble_eq_true rfl⟩ (fun _ _ => ?_)
    refine hv_eqst (st' := [.int (zI ((sp_lv (sp_bh (gS g) (gW g) (gH g) (100 * a + 10 * b + k)) : Int))), .int (zI ((sp_lv (gH g) : Int))), .int (zI (g 11)), .int (zI ((10) + (g 3))), .ref r9]) rfl ?_
    refine hv_weq (ws' := [(r9, .inl (dA 0, 12, .inl (fun i => zI ((sp_set (sp_set (g) 7 ((g 7) + (sp_fi g (gH g) (sp_bh (gS g) (gW g) (gH g) (100 * a + 10 * b + k))))) 9 ((g 9) + (1))) i))))]) (rfl) ?_
    refine hv_isub C dX9_clipOn_70 (zI_sub _ _) ?_
    refine hv_iadd C dX9_clipOn_71 (zI_add _ _) ?_
    refine hv_iast C dX9_clipOn_72 0 rfl (11) (zI_ix (by omega)) (by omega) (by omega) ?_
    refine hv_weq (ws' := [(r9, .inl (dA 0, 12, .inl (fun i => zI ((sp_set (sp_set (sp_set (g) 7 ((g 7) + (sp_fi g (gH g) (sp_bh (gS g) (gW g) (gH g) (100 * a + 10 * b + k))))) 9 ((g 9) + (1))) 11 ((g 11) + (((sp_lv (gH g) : Int)) - ((sp_lv (sp_bh (gS g) (gW g) (gH g) (100 * a + 10 * b + k)) : Int))))) i))))]) (by rw [sp_upd]; rfl) ?_
    refine hv_aload_n C dX9_clipOn_73 3 rfl ?_
    refine hv_iconst C dX9_clipOn_74 (v := zI (1)) rfl ?_
    refine hv_iload C dX9_clipOn_75 1 rfl ?_
    refine hv_iast C dX9_clipOn_77 0 rfl (1) (rfl) (by omega) (by omega) ?_
    refine hv_weq (ws' := [(r9, .inl (dA 0, 12, .inl (fun i => zI ((sp_set (sp_set (sp_set (sp_set (g) 7 ((g 7) + (sp_fi g (gH g) (sp_bh (gS g) (gW g) (gH g) (100 * a + 10 * b + k))))) 9 ((g 9) + (1))) 11 ((g 11) + (((sp_lv (gH g) : Int)) - ((sp_lv (sp_bh (gS g) (gW g) (gH g) (100 * a + 10 * b + k)) : Int))))) 1 ((sp_bh (gS g) (gW g) (gH g) (100 * a + 10 * b + k) : Int))) i))))]) (by rw [sp_upd]; rfl) ?_
    refine hv_aload_n C dX9_clipOn_78 3 rfl ?_
    refine hv_iconst C dX9_clipOn_79 (v := zI (3)) rfl ?_
    refine hv_iconst C dX9_clipOn_80 (v := zI (1)) rfl ?_
    refine hv_iload C dX9_clipOn_81 2 rfl ?_
    refine hv_isub C dX9_clipOn_83 (zI_sub _ _) ?_
    refine hv_iast C dX9_clipOn_84 0 rfl (3) (rfl) (by omega) (by omega) ?_
    refine hv_weq (ws' := [(r9, .inl (dA 0, 12, .inl (fun i => zI ((sp_set (sp_set (sp_set (sp_set (sp_set (g) 7 ((g 7) + (sp_fi g (gH g) (sp_bh (gS g) (gW g) (gH g) (100 * a + 10 * b + k))))) 9 ((g 9) + (1))) 11 ((g 11) + (((sp_lv (gH g) : Int)) - ((sp_lv (sp_bh (gS g) (gW g) (gH g) (100 * a + 10 * b + k)) : Int))))) 1 ((sp_bh (gS g) (gW g) (gH g) (100 * a + 10 * b + k) : Int))) 3 ((1) - (g 3))) i))))]) (by rw [sp_upd]; rfl) ?_
    refine hv_acg 0 (f' := fun i => zI ((ox_clip g (100 * a + 10 * b + k)) i)) rfl (fun i hi => ?_) rfl ?_
    · rcases (show i = 0 ∨ i = 1 ∨ i = 2 ∨ i = 3 ∨ i = 4 ∨ i = 5 ∨ i = 6 ∨ i = 7 ∨ i = 8 ∨ i = 9 ∨ i = 10 ∨ i = 11 by omega) with rfl | rfl | rfl | rfl | rfl | rfl | rfl | rfl | rfl | rfl | rfl | rfl <;> simp [ox_clip, sp_do, sp_set, e3]
    refine hv_iload C dX9_clipOn_85 0 rfl ?_
    exact hv_iret C M dX9_clipOn_87 rfl rfl () trivial rfl [] (List.Perm.of_eq (by first | rfl | exact (List.append_nil _).symm)) (Nat.le_refl _) (Nat.le_refl _)
