/-! the model: scripts, simulations -/
theorem mz_tc_t {g : Nat → Int} {a b k : Int} (e : ox_can g a b k = true) : ox_tc g a b k = ox_clip g (100 * a.toNat + 10 * b.toNat + k.toNat) := by
  have h := (ox_can_t e).1
  unfold ox_tc
  rw [if_pos e, show (100 * a + 10 * b + k).toNat = 100 * a.toNat + 10 * b.toNat + k.toNat by omega]
theorem mz_tc_f {g : Nat → Int} {a b k : Int} (e : ¬ ox_can g a b k = true) : ox_tc g a b k = g := if_neg e
theorem mz_tw_t {g : Nat → Int} {a : Int} (e : ox_cw g a = true) : ox_tw g a = ox_wat g (a.toNat : Int) := by
  have h := (ox_cw_t e).1
  unfold ox_tw
  rw [if_pos e, show ((a.toNat : Nat) : Int) = a by omega]
theorem mz_tw_f {g : Nat → Int} {a : Int} (e : ¬ ox_cw g a = true) : ox_tw g a = g := if_neg e
theorem mz_fi0 {g : Nat → Int} (hg : WF g) {c : Nat} : 0 ≤ sp_fi g (gH g) (sp_bh (gS g) (gW g) (gH g) c) ∧ sp_fi g (gH g) (sp_bh (gS g) (gW g) (gH g) c) ≤ 900 := by
  have h1 := sp_bh_lc (S := gS g) (w := gW g) (c := c) hg.x
  have h2 := sp_lc6 hg.x
  have h3 := hg.2.2.2.2.1
  unfold sp_fi
  have hy : 0 ≤ ((sp_lc (gH g) : Int) - (sp_lc (sp_bh (gS g) (gW g) (gH g) c) : Int)) ∧ ((sp_lc (gH g) : Int) - (sp_lc (sp_bh (gS g) (gW g) (gH g) c) : Int)) ≤ 6 := by omega
  generalize ((sp_lc (gH g) : Int) - (sp_lc (sp_bh (gS g) (gW g) (gH g) c) : Int)) = y at hy ⊢
  generalize g 4 = x at h3 ⊢
  rcases (show x = 1 ∨ x = 2 ∨ x = 3 ∨ x = 4 ∨ x = 5 ∨ x = 6 ∨ x = 7 ∨ x = 8 ∨ x = 9 by omega) with rfl | rfl | rfl | rfl | rfl | rfl | rfl | rfl | rfl <;> omega
theorem mz_dg1 {h i : Nat} (hd : ¬ sp_dg h i = 3) : sp_dg (h + 4 ^ i) i = sp_dg h i + 1 := by
  have h4 := sp_dg_lt h i
  unfold sp_dg at *
  rw [Nat.add_div_right _ (Nat.pow_pos (by decide))]
  omega

set_option maxHeartbeats 4000000 in
set_option maxRecDepth 100000 in
theorem k_X9_command (l : Launch) (D : va_G) (dA : Nat → ClassId) (m9 xt nw tr di ke ik wt : Nat) (rf sz ac ld sp ou : Int) (t5 : Nat → Int) (ht : WF t5) (wv : Nat → Int) (hl : mz_LW ld wv) (q : Int) (hq0 : 0 ≤ q ∧ q < 10000) : hv_Ct l yX9_command (hw_W yX9_command cX9_command 6 (some .boolean)) 10 D dA [.ref m9, .int (zI (q / 1000)), .int (zI (q % 1000))] ([(m9, .inr (7, [.int (zI (rf)), .ref xt, .int (zI (sz)), .ref nw, .ref tr, .ref di, .int (zI (ac)), .ref ke, .ref ik, .ref wt, .int (zI (ld)), .int (zI (sp)), .int (zI (ou))])), (tr, .inl (dA 0, 12, .inl (fun i => zI (t5 i)))), (wt, .inl (dA 0, 4096, .inl (fun i => zI (wv i))))]) 0 0 (S := (Nat → Int) × Int × (Nat → Int)) (fun _ => some (.int (zI (zB (ox_gb t5 q))))) (fun u => (ox_gb t5 q = true → u.1 = ox_gs t5 q) ∧ mz_LW u.2.1 u.2.2) (fun u => [(m9, .inr (7, [.int (zI (rf)), .ref xt, .int (zI (sz)), .ref nw, .ref tr, .ref di, .int (zI (ac)), .ref ke, .ref ik, .ref wt, .int (zI (u.2.1)), .int (zI (sp)), .int (zI (ou))])), (tr, .inl (dA 0, 12, .inl (fun i => zI (u.1 i)))), (wt, .inl (dA 0, 4096, .inl (fun i => zI (u.2.2 i))))]) := by
  have hg0 := ht.1
  have hg1 := ht.e1
  have hgx := ht.x
  have hge0 := ht.e0
  have hge5 := ht.e5
  have hgS := ht.S
  have hg2 := ht.2.2.1
  have hg3 := ht.2.2.2.1
  refine hv_of (cc := cX9_command) (maxL := 6) (ret := (some .boolean)) (own := RX9) rfl (by decide) rfl (Nat.le_of_ble_eq_true rfl) ?_
  intro p e s m args below meth c C M
  refine hv_lveq (lv' := [(0, .ref m9), (1, .int (zI (q / 1000))), (2, .int (zI (q % 1000)))]) rfl ?_
  refine hv_iload_n C dX9_command_0 2 rfl ?_
  refine hv_bipush C dX9_command_1 (v := zI (100)) (by decide +kernel) ?_
  refine hv_idiv C dX9_command_3 (z := zI (q / 100 % 10)) ((zI_ne0 (by omega)).mpr (by omega)) ((zI_div (by omega)).trans (zI_c (by omega))) ?_
  refine hv_istore_n C dX9_command_4 (lw := [(3, .int (zI (q / 100 % 10))), (0, .ref m9), (1, .int (zI (q / 1000))), (2, .int (zI (q % 1000)))]) (by decide) rfl ?_
  refine hv_iload_n C dX9_command_5 3 rfl ?_
  refine hv_bipush C dX9_command_6 (v := zI (10)) (by decide +kernel) ?_
  refine hv_idiv C dX9_command_8 (z := zI (q % 1000 / 10)) ((zI_ne0 (by omega)).mpr (by omega)) ((zI_div (by omega)).trans (zI_c (by rfl))) ?_
  refine hv_bipush C dX9_command_9 (v := zI (10)) (by decide +kernel) ?_
  refine hv_irem C dX9_command_11 (z := zI (q / 10 % 10)) ((zI_ne0 (by omega)).mpr (by omega)) ((zI_rem (by omega)).trans (zI_c (by omega))) ?_
  refine hv_istore C dX9_command_12 (lw := [(4, .int (zI (q / 10 % 10))), (3, .int (zI (q / 100 % 10))), (0, .ref m9), (1, .int (zI (q / 1000))), (2, .int (zI (q % 1000)))]) (by decide) rfl ?_
  refine hv_iload_n C dX9_command_14 4 rfl ?_
  refine hv_bipush C dX9_command_15 (v := zI (10)) (by decide +kernel) ?_
  refine hv_irem C dX9_command_17 (z := zI (q % 10)) ((zI_ne0 (by omega)).mpr (by omega)) ((zI_rem (by omega)).trans (zI_c (by omega))) ?_
  refine hv_istore C dX9_command_18 (lw := [(5, .int (zI (q % 10))), (4, .int (zI (q / 10 % 10))), (3, .int (zI (q / 100 % 10))), (0, .ref m9), (1, .int (zI (q / 1000))), (2, .int (zI (q % 1000)))]) (by decide) rfl ?_
  refine hv_iload_n C dX9_command_20 4 rfl ?_
  rcases (show ((q / 1000) = 1) ∨ ((q / 1000) = 2) ∨ ((q / 1000) = 3) ∨ ((q / 1000) = 4) ∨ ((q / 1000) = 5) ∨ ((q / 1000) = 6) ∨ ((q / 1000) = 7) ∨ ((q / 1000) = 8) ∨ ((q / 1000) = 9) ∨ (q / 1000 = 0) by omega) with hq | hq | hq | hq | hq | hq | hq | hq | hq | hq
  · refine hv_topi (y := zI (1)) (by rw [hq]) ?_
    refine hv_tabIn C dX9_command_21 (by decide) (by decide) rfl (tgt := 72) (by decide) ?_
    have hgb : ox_gb t5 q = ox_gbk t5 q 1 := by unfold ox_gb; rw [show (q / 1000).toNat = 1 by omega]
    have hgs : ox_gs t5 q = ox_gsk t5 q 1 := by unfold ox_gs; rw [show (q / 1000).toNat = 1 by omega]
    refine hv_aload_n C dX9_command_72 3 rfl ?_
    refine hv_get C dX9_command_73 (fun w h => hw_c (tw_u_9 w h)) 0 (ci := 7) rfl rfl 4 (by decide) (hw_c tw_f_RX9_16) rfl ?_
    refine hv_aload_n C dX9_command_76 3 rfl ?_
    refine hv_get C dX9_command_77 (fun w h => hw_c (tw_u_9 w h)) 0 (ci := 7) rfl rfl 4 (by decide) (hw_c tw_f_RX9_16) rfl ?_
    refine hv_iconst C dX9_command_80 (v := zI (1)) rfl ?_
    refine hv_iald C dX9_command_81 1 rfl (1) (rfl) (by omega) (by omega) (v := (zI (t5 1))) rfl ?_
    refine hv_iload_n C dX9_command_82 2 rfl ?_
    refine hv_iload C dX9_command_83 1 rfl ?_
    refine hv_iload C dX9_command_85 0 rfl ?_
    refine hv_callS (As := [.ref tr, .int (zI (t5 1)), .int (zI (q / 100 % 10)), .int (zI (q / 10 % 10)), .int (zI (q % 10))]) (rest := []) (wc := [(tr, .inl (dA 0, 12, .inl (fun i => zI (t5 i))))]) (wr := [(m9, .inr (7, [.int (zI (rf)), .ref xt, .int (zI (sz)), .ref nw, .ref tr, .ref di, .int (zI (ac)), .ref ke, .ref ik, .ref wt, .int (zI (ld)), .int (zI (sp)), .int (zI (ou))])), (wt, .inl (dA 0, 4096, .inl (fun i => zI (wv i))))]) C (k_X9_canClip l D dA tr t5 ht (gH t5) ht.e1 ht.x (q / 100 % 10) (by omega) (q / 10 % 10) (by omega) (q % 10) (by omega)) (va_cwS 5 C.1.2.2.2.2 (hw_S tw_m_RX9_80 tw_t_X9_canClip tw_n_RX9 tw_k_X9_canClip) rfl rfl rfl (by decide +kernel) ⟨Nat.le_of_ble_eq_true rfl, Nat.le_of_ble_eq_true rfl⟩) (hv_pm [1] rfl) rfl rfl (Nat.le_of_ble_eq_true rfl) dX9_command_87 ⟨Nat.le_of_ble_eq_true rfl, Nat.le_of_ble_eq_true rfl⟩ (fun _ _ => ?_)
    refine hv_eqst (st' := [.int (zI (zB (ox_can t5 (q / 100 % 10) (q / 10 % 10) (q % 10))))]) rfl ?_
    refine hv_weq (ws' := [(tr, .inl (dA 0, 12, .inl (fun i => zI (t5 i)))), (m9, .inr (7, [.int (zI (rf)), .ref xt, .int (zI (sz)), .ref nw, .ref tr, .ref di, .int (zI (ac)), .ref ke, .ref ik, .ref wt, .int (zI (ld)), .int (zI (sp)), .int (zI (ou))])), (wt, .inl (dA 0, 4096, .inl (fun i => zI (wv i))))]) (rfl) ?_
    refine hv_srt [1, 0, 0] (ws' := [(m9, .inr (7, [.int (zI (rf)), .ref xt, .int (zI (sz)), .ref nw, .ref tr, .ref di, .int (zI (ac)), .ref ke, .ref ik, .ref wt, .int (zI (ld)), .int (zI (sp)), .int (zI (ou))])), (tr, .inl (dA 0, 12, .inl (fun i => zI (t5 i)))), (wt, .inl (dA 0, 4096, .inl (fun i => zI (wv i))))]) rfl ?_
    refine hv_if_eq C dX9_command_90 (tgt := 112) (by decide) zB_e (fun hc90 => ?_) (fun hc90 => ?_)
    · refine hv_iconst C dX9_command_112 (v := zI (0)) rfl ?_
      exact hv_iret C M dX9_command_113 rfl zB_n2 (t5, ld, wv) ⟨(fun z => absurd z (by rw [show ox_gb t5 q = false from by rw [hgb]; exact Bool.eq_false_iff.mpr hc90]; exact Bool.false_ne_true)), hl⟩ (hv_rv (by rw [show ox_gb t5 q = false from by rw [hgb]; exact Bool.eq_false_iff.mpr hc90]; rfl)) [] (List.Perm.of_eq (by first | rfl | exact (List.append_nil _).symm)) (Nat.le_refl _) (Nat.le_refl _)
    · have hcn := Decidable.not_not.mp hc90
      have hct := (ox_can_t hcn).1
      refine hv_aload_n C dX9_command_93 3 rfl ?_
      refine hv_get C dX9_command_94 (fun w h => hw_c (tw_u_9 w h)) 0 (ci := 7) rfl rfl 4 (by decide) (hw_c tw_f_RX9_16) rfl ?_
      refine hv_iload_n C dX9_command_97 2 rfl ?_
      refine hv_iload C dX9_command_98 1 rfl ?_
      refine hv_iload C dX9_command_100 0 rfl ?_
      refine hv_callS (As := [.ref tr, .int (zI (q / 100 % 10)), .int (zI (q / 10 % 10)), .int (zI (q % 10))]) (rest := []) (wc := [(tr, .inl (dA 0, 12, .inl (fun i => zI (t5 i))))]) (wr := [(m9, .inr (7, [.int (zI (rf)), .ref xt, .int (zI (sz)), .ref nw, .ref tr, .ref di, .int (zI (ac)), .ref ke, .ref ik, .ref wt, .int (zI (ld)), .int (zI (sp)), .int (zI (ou))])), (wt, .inl (dA 0, 4096, .inl (fun i => zI (wv i))))]) C (k_X9_clipOn l D dA tr t5 ht (q / 100 % 10).toNat (q / 10 % 10).toNat (q % 10).toNat (by omega) (by omega) (by omega) (by omega) (by omega) (by omega)) (va_cwS 4 C.1.2.2.2.2 (hw_S tw_m_RX9_108 tw_t_X9_clipOn tw_n_RX9 tw_k_X9_clipOn) rfl rfl rfl (by decide +kernel) ⟨Nat.le_of_ble_eq_true rfl, Nat.le_of_ble_eq_true rfl⟩) (hv_pm [1] rfl) rfl rfl (Nat.le_of_ble_eq_true rfl) dX9_command_102 ⟨Nat.le_of_ble_eq_true rfl, Nat.le_of_ble_eq_true rfl⟩ (fun _ _ => ?_)
      have hfi := mz_fi0 ht (c := (100 * (q / 100 % 10).toNat + 10 * (q / 10 % 10).toNat + (q % 10).toNat))
      refine hv_eqst (st' := [.int (zI (sp_fi t5 (gH t5) (sp_bh (gS t5) (gW t5) (gH t5) (100 * (q / 100 % 10).toNat + 10 * (q / 10 % 10).toNat + (q % 10).toNat))))]) rfl ?_
      refine hv_weq (ws' := [(tr, .inl (dA 0, 12, .inl (fun i => zI ((ox_clip t5 (100 * (q / 100 % 10).toNat + 10 * (q / 10 % 10).toNat + (q % 10).toNat)) i)))), (m9, .inr (7, [.int (zI (rf)), .ref xt, .int (zI (sz)), .ref nw, .ref tr, .ref di, .int (zI (ac)), .ref ke, .ref ik, .ref wt, .int (zI (ld)), .int (zI (sp)), .int (zI (ou))])), (wt, .inl (dA 0, 4096, .inl (fun i => zI (wv i))))]) (rfl) ?_
      refine hv_srt [1, 0, 0] (ws' := [(m9, .inr (7, [.int (zI (rf)), .ref xt, .int (zI (sz)), .ref nw, .ref tr, .ref di, .int (zI (ac)), .ref ke, .ref ik, .ref wt, .int (zI (ld)), .int (zI (sp)), .int (zI (ou))])), (tr, .inl (dA 0, 12, .inl (fun i => zI ((ox_clip t5 (100 * (q / 100 % 10).toNat + 10 * (q / 10 % 10).toNat + (q % 10).toNat)) i)))), (wt, .inl (dA 0, 4096, .inl (fun i => zI (wv i))))]) rfl ?_
      refine hv_if_lt C dX9_command_105 (tgt := 112) (by decide) (zI_lt0 (by omega)) (fun hc105 => ?_) (fun hc105 => ?_)
      · exact absurd hc105 (by omega)
      · refine hv_iconst C dX9_command_108 (v := zI (1)) rfl ?_
        refine hv_goto C dX9_command_109 (tgt := 113) (by decide) ?_
        exact hv_iret C M dX9_command_113 rfl zB_n1 ((ox_clip t5 (100 * (q / 100 % 10).toNat + 10 * (q / 10 % 10).toNat + (q % 10).toNat)), ld, wv) ⟨(fun _ => (by rw [hgs]; exact (mz_tc_t hcn).symm)), hl⟩ (hv_rv (by rw [show ox_gb t5 q = true from by rw [hgb]; exact hcn]; rfl)) [] (List.Perm.of_eq (by first | rfl | exact (List.append_nil _).symm)) (Nat.le_refl _) (Nat.le_refl _)
  · refine hv_topi (y := zI (2)) (by rw [hq]) ?_
    refine hv_tabIn C dX9_command_21 (by decide) (by decide) rfl (tgt := 114) (by decide) ?_
    have hgb : ox_gb t5 q = ox_gbk t5 q 2 := by unfold ox_gb; rw [show (q / 1000).toNat = 2 by omega]
    have hgs : ox_gs t5 q = ox_gsk t5 q 2 := by unfold ox_gs; rw [show (q / 1000).toNat = 2 by omega]
    refine hv_iload_n C dX9_command_114 5 rfl ?_
    refine hv_bipush C dX9_command_115 (v := zI (100)) (by decide +kernel) ?_
    refine hv_irem C dX9_command_117 (z := zI (q % 100)) ((zI_ne0 (by omega)).mpr (by omega)) ((zI_rem (by omega)).trans (zI_c (by omega))) ?_
    refine hv_if_ne C dX9_command_118 (tgt := 147) (by decide) (zI_ne0 (by omega)) (fun hc118 => ?_) (fun hc118 => ?_)
    · refine hv_iconst C dX9_command_147 (v := zI (0)) rfl ?_
      exact hv_iret C M dX9_command_148 rfl zB_n2 (t5, ld, wv) ⟨(fun z => absurd z (by rw [show ox_gb t5 q = false from by rw [hgb]; exact decide_eq_false (fun z => by first | exact hc129 z.2 | omega)]; exact Bool.false_ne_true)), hl⟩ (hv_rv (by rw [show ox_gb t5 q = false from by rw [hgb]; exact decide_eq_false (fun z => by first | exact hc129 z.2 | omega)]; rfl)) [] (List.Perm.of_eq (by first | rfl | exact (List.append_nil _).symm)) (Nat.le_refl _) (Nat.le_refl _)
    · refine hv_aload_n C dX9_command_121 3 rfl ?_
      refine hv_get C dX9_command_122 (fun w h => hw_c (tw_u_9 w h)) 0 (ci := 7) rfl rfl 4 (by decide) (hw_c tw_f_RX9_16) rfl ?_
      refine hv_iload_n C dX9_command_125 2 rfl ?_
      refine hv_callS (As := [.ref tr, .int (zI (q / 100 % 10))]) (rest := []) (wc := [(tr, .inl (dA 0, 12, .inl (fun i => zI (t5 i))))]) (wr := [(m9, .inr (7, [.int (zI (rf)), .ref xt, .int (zI (sz)), .ref nw, .ref tr, .ref di, .int (zI (ac)), .ref ke, .ref ik, .ref wt, .int (zI (ld)), .int (zI (sp)), .int (zI (ou))])), (wt, .inl (dA 0, 4096, .inl (fun i => zI (wv i))))]) C (k_X9_canWater l D dA tr t5 ht (q / 100 % 10) (by omega)) (va_cwS 2 C.1.2.2.2.2 (hw_S tw_m_RX9_140 tw_t_X9_canWater tw_n_RX9 tw_k_X9_canWater) rfl rfl rfl (by decide +kernel) ⟨Nat.le_of_ble_eq_true rfl, Nat.le_of_ble_eq_true rfl⟩) (hv_pm [1] rfl) rfl rfl (Nat.le_of_ble_eq_true rfl) dX9_command_126 ⟨Nat.le_of_ble_eq_true rfl, Nat.le_of_ble_eq_true rfl⟩ (fun _ _ => ?_)
      refine hv_eqst (st' := [.int (zI (zB (ox_cw t5 (q / 100 % 10))))]) rfl ?_
      refine hv_weq (ws' := [(tr, .inl (dA 0, 12, .inl (fun i => zI (t5 i)))), (m9, .inr (7, [.int (zI (rf)), .ref xt, .int (zI (sz)), .ref nw, .ref tr, .ref di, .int (zI (ac)), .ref ke, .ref ik, .ref wt, .int (zI (ld)), .int (zI (sp)), .int (zI (ou))])), (wt, .inl (dA 0, 4096, .inl (fun i => zI (wv i))))]) (rfl) ?_
      refine hv_srt [1, 0, 0] (ws' := [(m9, .inr (7, [.int (zI (rf)), .ref xt, .int (zI (sz)), .ref nw, .ref tr, .ref di, .int (zI (ac)), .ref ke, .ref ik, .ref wt, .int (zI (ld)), .int (zI (sp)), .int (zI (ou))])), (tr, .inl (dA 0, 12, .inl (fun i => zI (t5 i)))), (wt, .inl (dA 0, 4096, .inl (fun i => zI (wv i))))]) rfl ?_
      refine hv_if_eq C dX9_command_129 (tgt := 147) (by decide) zB_e (fun hc129 => ?_) (fun hc129 => ?_)
      · refine hv_iconst C dX9_command_147 (v := zI (0)) rfl ?_
        exact hv_iret C M dX9_command_148 rfl zB_n2 (t5, ld, wv) ⟨(fun z => absurd z (by rw [show ox_gb t5 q = false from by rw [hgb]; exact decide_eq_false (fun z => by first | exact hc129 z.2 | omega)]; exact Bool.false_ne_true)), hl⟩ (hv_rv (by rw [show ox_gb t5 q = false from by rw [hgb]; exact decide_eq_false (fun z => by first | exact hc129 z.2 | omega)]; rfl)) [] (List.Perm.of_eq (by first | rfl | exact (List.append_nil _).symm)) (Nat.le_refl _) (Nat.le_refl _)
      · have hcn := Decidable.not_not.mp hc129
        have hct := (ox_cw_t hcn).1
        refine hv_aload_n C dX9_command_132 3 rfl ?_
        refine hv_get C dX9_command_133 (fun w h => hw_c (tw_u_9 w h)) 0 (ci := 7) rfl rfl 4 (by decide) (hw_c tw_f_RX9_16) rfl ?_
        refine hv_iload_n C dX9_command_136 2 rfl ?_
        refine hv_callS (As := [.ref tr, .int (zI (q / 100 % 10))]) (rest := []) (wc := [(tr, .inl (dA 0, 12, .inl (fun i => zI (t5 i))))]) (wr := [(m9, .inr (7, [.int (zI (rf)), .ref xt, .int (zI (sz)), .ref nw, .ref tr, .ref di, .int (zI (ac)), .ref ke, .ref ik, .ref wt, .int (zI (ld)), .int (zI (sp)), .int (zI (ou))])), (wt, .inl (dA 0, 4096, .inl (fun i => zI (wv i))))]) C (k_X9_waterOn l D dA tr t5 ht (q / 100 % 10).toNat (by omega) (by omega) ((ox_cw_t (hcn)).2)) (va_cwS 2 C.1.2.2.2.2 (hw_S tw_m_RX9_143 tw_t_X9_waterOn tw_n_RX9 tw_k_X9_waterOn) rfl rfl rfl (by decide +kernel) ⟨Nat.le_of_ble_eq_true rfl, Nat.le_of_ble_eq_true rfl⟩) (hv_pm [1] rfl) rfl rfl (Nat.le_of_ble_eq_true rfl) dX9_command_137 ⟨Nat.le_of_ble_eq_true rfl, Nat.le_of_ble_eq_true rfl⟩ (fun _ _ => ?_)
        have hdg := mz_dg1 ((ox_cw_t (hcn)).2)
        have hdl := sp_dg_lt (gH t5) (q / 100 % 10).toNat
        refine hv_eqst (st' := [.int (zI ((sp_dg (gH t5 + 4 ^ (q / 100 % 10).toNat) (q / 100 % 10).toNat : Int)))]) rfl ?_
        refine hv_weq (ws' := [(tr, .inl (dA 0, 12, .inl (fun i => zI ((ox_wat t5 (((q / 100 % 10).toNat : Nat) : Int)) i)))), (m9, .inr (7, [.int (zI (rf)), .ref xt, .int (zI (sz)), .ref nw, .ref tr, .ref di, .int (zI (ac)), .ref ke, .ref ik, .ref wt, .int (zI (ld)), .int (zI (sp)), .int (zI (ou))])), (wt, .inl (dA 0, 4096, .inl (fun i => zI (wv i))))]) (rfl) ?_
        refine hv_srt [1, 0, 0] (ws' := [(m9, .inr (7, [.int (zI (rf)), .ref xt, .int (zI (sz)), .ref nw, .ref tr, .ref di, .int (zI (ac)), .ref ke, .ref ik, .ref wt, .int (zI (ld)), .int (zI (sp)), .int (zI (ou))])), (tr, .inl (dA 0, 12, .inl (fun i => zI ((ox_wat t5 (((q / 100 % 10).toNat : Nat) : Int)) i)))), (wt, .inl (dA 0, 4096, .inl (fun i => zI (wv i))))]) rfl ?_
        refine hv_if_le C dX9_command_140 (tgt := 147) (by decide) (zI_le0 (by omega)) (fun hc140 => ?_) (fun hc140 => ?_)
        · exact absurd hc140 (by omega)
        · refine hv_iconst C dX9_command_143 (v := zI (1)) rfl ?_
          refine hv_goto C dX9_command_144 (tgt := 148) (by decide) ?_
          exact hv_iret C M dX9_command_148 rfl zB_n1 ((ox_wat t5 (((q / 100 % 10).toNat : Nat) : Int)), ld, wv) ⟨(fun _ => (by rw [hgs]; show _ = ite _ _ _; rw [if_pos (by omega)]; exact (mz_tw_t hcn).symm)), hl⟩ (hv_rv (by rw [show ox_gb t5 q = true from by rw [hgb]; exact decide_eq_true ⟨by omega, hcn⟩]; rfl)) [] (List.Perm.of_eq (by first | rfl | exact (List.append_nil _).symm)) (Nat.le_refl _) (Nat.le_refl _)
  · refine hv_topi (y := zI (3)) (by rw [hq]) ?_
    refine hv_tabIn C dX9_command_21 (by decide) (by decide) rfl (tgt := 149) (by decide) ?_
    have hgb : ox_gb t5 q = ox_gbk t5 q 3 := by unfold ox_gb; rw [show (q / 1000).toNat = 3 by omega]
    have hgs : ox_gs t5 q = ox_gsk t5 q 3 := by unfold ox_gs; rw [show (q / 1000).toNat = 3 by omega]
    refine hv_iload_n C dX9_command_149 5 rfl ?_
    refine hv_iconst C dX9_command_150 (v := zI (3)) rfl ?_
    refine hv_icmp_ge C dX9_command_151 (tgt := 169) (by decide) (zI_le (by omega)) (fun hc151 => ?_) (fun hc151 => ?_)
    · refine hv_iconst C dX9_command_169 (v := zI (0)) rfl ?_
      exact hv_iret C M dX9_command_170 rfl zB_n2 (t5, ld, wv) ⟨(fun z => absurd z (by rw [show ox_gb t5 q = false from by rw [hgb]; exact decide_eq_false (by omega)]; exact Bool.false_ne_true)), hl⟩ (hv_rv (by rw [show ox_gb t5 q = false from by rw [hgb]; exact decide_eq_false (by omega)]; rfl)) [] (List.Perm.of_eq (by first | rfl | exact (List.append_nil _).symm)) (Nat.le_refl _) (Nat.le_refl _)
    · refine hv_aload_n C dX9_command_154 3 rfl ?_
      refine hv_get C dX9_command_155 (fun w h => hw_c (tw_u_9 w h)) 0 (ci := 7) rfl rfl 4 (by decide) (hw_c tw_f_RX9_16) rfl ?_
      refine hv_iload_n C dX9_command_158 5 rfl ?_
      refine hv_callS (As := [.ref tr, .int (zI (q % 1000))]) (rest := []) (wc := [(tr, .inl (dA 0, 12, .inl (fun i => zI (t5 i))))]) (wr := [(m9, .inr (7, [.int (zI (rf)), .ref xt, .int (zI (sz)), .ref nw, .ref tr, .ref di, .int (zI (ac)), .ref ke, .ref ik, .ref wt, .int (zI (ld)), .int (zI (sp)), .int (zI (ou))])), (wt, .inl (dA 0, 4096, .inl (fun i => zI (wv i))))]) C (k_X9_windOn l D dA tr t5 (q % 1000)) (va_cwS 2 C.1.2.2.2.2 (hw_S tw_m_RX9_146 tw_t_X9_windOn tw_n_RX9 tw_k_X9_windOn) rfl rfl rfl (by decide +kernel) ⟨Nat.le_of_ble_eq_true rfl, Nat.le_of_ble_eq_true rfl⟩) (hv_pm [1] rfl) rfl rfl (Nat.le_of_ble_eq_true rfl) dX9_command_159 ⟨Nat.le_of_ble_eq_true rfl, Nat.le_of_ble_eq_true rfl⟩ (fun _ _ => ?_)
      refine hv_eqst (st' := [.int (zI (t5 2))]) rfl ?_
      refine hv_weq (ws' := [(tr, .inl (dA 0, 12, .inl (fun i => zI ((sp_set t5 2 (q % 1000)) i)))), (m9, .inr (7, [.int (zI (rf)), .ref xt, .int (zI (sz)), .ref nw, .ref tr, .ref di, .int (zI (ac)), .ref ke, .ref ik, .ref wt, .int (zI (ld)), .int (zI (sp)), .int (zI (ou))])), (wt, .inl (dA 0, 4096, .inl (fun i => zI (wv i))))]) (rfl) ?_
      refine hv_srt [1, 0, 0] (ws' := [(m9, .inr (7, [.int (zI (rf)), .ref xt, .int (zI (sz)), .ref nw, .ref tr, .ref di, .int (zI (ac)), .ref ke, .ref ik, .ref wt, .int (zI (ld)), .int (zI (sp)), .int (zI (ou))])), (tr, .inl (dA 0, 12, .inl (fun i => zI ((sp_set t5 2 (q % 1000)) i)))), (wt, .inl (dA 0, 4096, .inl (fun i => zI (wv i))))]) rfl ?_
      refine hv_if_lt C dX9_command_162 (tgt := 169) (by decide) (zI_lt0 (by omega)) (fun hc162 => ?_) (fun hc162 => ?_)
      · exact absurd hc162 (by omega)
      · refine hv_iconst C dX9_command_165 (v := zI (1)) rfl ?_
        refine hv_goto C dX9_command_166 (tgt := 170) (by decide) ?_
        exact hv_iret C M dX9_command_170 rfl zB_n1 ((sp_set t5 2 (q % 1000)), ld, wv) ⟨(fun _ => (by rw [hgs]; show _ = ite _ _ _; rw [if_pos (by omega)]; unfold ox_ti; rw [if_pos (by omega), show q % 1000 = q % 10 by omega])), hl⟩ (hv_rv (by rw [show ox_gb t5 q = true from by rw [hgb]; exact decide_eq_true (by omega)]; rfl)) [] (List.Perm.of_eq (by first | rfl | exact (List.append_nil _).symm)) (Nat.le_refl _) (Nat.le_refl _)
  · refine hv_topi (y := zI (4)) (by rw [hq]) ?_
    refine hv_tabIn C dX9_command_21 (by decide) (by decide) rfl (tgt := 171) (by decide) ?_
    have hgb : ox_gb t5 q = ox_gbk t5 q 4 := by unfold ox_gb; rw [show (q / 1000).toNat = 4 by omega]
    have hgs : ox_gs t5 q = ox_gsk t5 q 4 := by unfold ox_gs; rw [show (q / 1000).toNat = 4 by omega]
    refine hv_iload_n C dX9_command_171 5 rfl ?_
    refine hv_if_ne C dX9_command_172 (tgt := 189) (by decide) (zI_ne0 (by omega)) (fun hc172 => ?_) (fun hc172 => ?_)
    · refine hv_iconst C dX9_command_189 (v := zI (0)) rfl ?_
      exact hv_iret C M dX9_command_190 rfl zB_n2 (t5, ld, wv) ⟨(fun z => absurd z (by rw [show ox_gb t5 q = false from by rw [hgb]; exact decide_eq_false (by omega)]; exact Bool.false_ne_true)), hl⟩ (hv_rv (by rw [show ox_gb t5 q = false from by rw [hgb]; exact decide_eq_false (by omega)]; rfl)) [] (List.Perm.of_eq (by first | rfl | exact (List.append_nil _).symm)) (Nat.le_refl _) (Nat.le_refl _)
    · refine hv_aload_n C dX9_command_175 3 rfl ?_
      refine hv_get C dX9_command_176 (fun w h => hw_c (tw_u_9 w h)) 0 (ci := 7) rfl rfl 4 (by decide) (hw_c tw_f_RX9_16) rfl ?_
      refine hv_callS (As := [.ref tr]) (rest := []) (wc := [(tr, .inl (dA 0, 12, .inl (fun i => zI (t5 i))))]) (wr := [(m9, .inr (7, [.int (zI (rf)), .ref xt, .int (zI (sz)), .ref nw, .ref tr, .ref di, .int (zI (ac)), .ref ke, .ref ik, .ref wt, .int (zI (ld)), .int (zI (sp)), .int (zI (ou))])), (wt, .inl (dA 0, 4096, .inl (fun i => zI (wv i))))]) C (k_X9_passOn l D dA tr t5) (va_cwS 1 C.1.2.2.2.2 (hw_S tw_m_RX9_149 tw_t_X9_passOn tw_n_RX9 tw_k_X9_passOn) rfl rfl rfl (by decide +kernel) ⟨Nat.le_of_ble_eq_true rfl, Nat.le_of_ble_eq_true rfl⟩) (hv_pm [1] rfl) rfl rfl (Nat.le_of_ble_eq_true rfl) dX9_command_179 ⟨Nat.le_of_ble_eq_true rfl, Nat.le_of_ble_eq_true rfl⟩ (fun _ _ => ?_)
      refine hv_eqst (st' := [.int (zI (1 - t5 3))]) rfl ?_
      refine hv_weq (ws' := [(tr, .inl (dA 0, 12, .inl (fun i => zI ((ox_ps t5) i)))), (m9, .inr (7, [.int (zI (rf)), .ref xt, .int (zI (sz)), .ref nw, .ref tr, .ref di, .int (zI (ac)), .ref ke, .ref ik, .ref wt, .int (zI (ld)), .int (zI (sp)), .int (zI (ou))])), (wt, .inl (dA 0, 4096, .inl (fun i => zI (wv i))))]) (rfl) ?_
      refine hv_srt [1, 0, 0] (ws' := [(m9, .inr (7, [.int (zI (rf)), .ref xt, .int (zI (sz)), .ref nw, .ref tr, .ref di, .int (zI (ac)), .ref ke, .ref ik, .ref wt, .int (zI (ld)), .int (zI (sp)), .int (zI (ou))])), (tr, .inl (dA 0, 12, .inl (fun i => zI ((ox_ps t5) i)))), (wt, .inl (dA 0, 4096, .inl (fun i => zI (wv i))))]) rfl ?_
      refine hv_if_lt C dX9_command_182 (tgt := 189) (by decide) (zI_lt0 (by omega)) (fun hc182 => ?_) (fun hc182 => ?_)
      · exact absurd hc182 (by omega)
      · refine hv_iconst C dX9_command_185 (v := zI (1)) rfl ?_
        refine hv_goto C dX9_command_186 (tgt := 190) (by decide) ?_
        exact hv_iret C M dX9_command_190 rfl zB_n1 ((ox_ps t5), ld, wv) ⟨(fun _ => (by rw [hgs]; rfl)), hl⟩ (hv_rv (by rw [show ox_gb t5 q = true from by rw [hgb]; exact decide_eq_true (by omega)]; rfl)) [] (List.Perm.of_eq (by first | rfl | exact (List.append_nil _).symm)) (Nat.le_refl _) (Nat.le_refl _)
  · refine hv_topi (y := zI (5)) (by rw [hq]) ?_
    refine hv_tabIn C dX9_command_21 (by decide) (by decide) rfl (tgt := 191) (by decide) ?_
    have hgb : ox_gb t5 q = ox_gbk t5 q 5 := by unfold ox_gb; rw [show (q / 1000).toNat = 5 by omega]
    have hgs : ox_gs t5 q = ox_gsk t5 q 5 := by unfold ox_gs; rw [show (q / 1000).toNat = 5 by omega]
    refine hv_iload_n C dX9_command_191 5 rfl ?_
    refine hv_if_ne C dX9_command_192 (tgt := 210) (by decide) (zI_ne0 (by omega)) (fun hc192 => ?_) (fun hc192 => ?_)
    · refine hv_iconst C dX9_command_210 (v := zI (0)) rfl ?_
      exact hv_iret C M dX9_command_211 rfl zB_n2 (t5, ld, wv) ⟨(fun z => absurd z (by rw [show ox_gb t5 q = false from by rw [hgb]; exact decide_eq_false (fun z => by first | exact hc203 z.2 | omega)]; exact Bool.false_ne_true)), hl⟩ (hv_rv (by rw [show ox_gb t5 q = false from by rw [hgb]; exact decide_eq_false (fun z => by first | exact hc203 z.2 | omega)]; rfl)) [] (List.Perm.of_eq (by first | rfl | exact (List.append_nil _).symm)) (Nat.le_refl _) (Nat.le_refl _)
    · refine hv_aload_n C dX9_command_195 3 rfl ?_
      refine hv_aload_n C dX9_command_196 3 rfl ?_
      refine hv_get C dX9_command_197 (fun w h => hw_c (tw_u_9 w h)) 0 (ci := 7) rfl rfl 4 (by decide) (hw_c tw_f_RX9_16) rfl ?_
      refine hv_callV (As := [.ref tr]) (rest := []) (wc := [(m9, .inr (7, [.int (zI (rf)), .ref xt, .int (zI (sz)), .ref nw, .ref tr, .ref di, .int (zI (ac)), .ref ke, .ref ik, .ref wt, .int (zI (ld)), .int (zI (sp)), .int (zI (ou))])), (tr, .inl (dA 0, 12, .inl (fun i => zI (t5 i)))), (wt, .inl (dA 0, 4096, .inl (fun i => zI (wv i))))]) (wr := []) C (k_X9_bestOn l D dA m9 xt nw tr di ke ik wt rf sz ac ld sp ou tr t5 ht wv hl) (cwV 1 C.1.2.2.2.2 (hw_V tw_m_RX9_152 tw_i_X9_bestOn tw_s_X9_bestOn tw_n_RX9 tw_k_X9_bestOn) rfl rfl rfl (by decide +kernel) ⟨Nat.le_of_ble_eq_true rfl, Nat.le_of_ble_eq_true rfl⟩) (hv_pm [0, 0, 0] rfl) rfl 0 7 rfl rfl rfl (Nat.le_of_ble_eq_true rfl) dX9_command_200 ⟨Nat.le_of_ble_eq_true rfl, Nat.le_of_ble_eq_true rfl⟩ (fun u7 hu7 => ?_)
      refine hv_eqst (st' := [.int (zI (zB (ox_isb t5)))]) rfl ?_
      refine hv_weq (ws' := [(m9, .inr (7, [.int (zI (rf)), .ref xt, .int (zI (sz)), .ref nw, .ref tr, .ref di, .int (zI (ac)), .ref ke, .ref ik, .ref wt, .int (zI (mz_key t5)), .int (zI (sp)), .int (zI (ou))])), (tr, .inl (dA 0, 12, .inl (fun i => zI ((ox_tb t5) i)))), (wt, .inl (dA 0, 4096, .inl (fun i => zI (u7 i))))]) (rfl) ?_
      refine hv_if_eq C dX9_command_203 (tgt := 210) (by decide) zB_e (fun hc203 => ?_) (fun hc203 => ?_)
      · refine hv_iconst C dX9_command_210 (v := zI (0)) rfl ?_
        exact hv_iret C M dX9_command_211 rfl zB_n2 ((ox_tb t5), mz_key t5, u7) ⟨(fun z => absurd z (by rw [show ox_gb t5 q = false from by rw [hgb]; exact decide_eq_false (fun z => by first | exact hc203 z.2 | omega)]; exact Bool.false_ne_true)), (mz_LW_new ht hu7)⟩ (hv_rv (by rw [show ox_gb t5 q = false from by rw [hgb]; exact decide_eq_false (fun z => by first | exact hc203 z.2 | omega)]; rfl)) [] (List.Perm.of_eq (by first | rfl | exact (List.append_nil _).symm)) (Nat.le_refl _) (Nat.le_refl _)
      · refine hv_iconst C dX9_command_206 (v := zI (1)) rfl ?_
        refine hv_goto C dX9_command_207 (tgt := 211) (by decide) ?_
        exact hv_iret C M dX9_command_211 rfl zB_n1 ((ox_tb t5), mz_key t5, u7) ⟨(fun _ => (by rw [hgs]; show _ = ite _ _ _; rw [if_pos (by omega)])), (mz_LW_new ht hu7)⟩ (hv_rv (by rw [show ox_gb t5 q = true from by rw [hgb]; exact decide_eq_true ⟨by omega, Decidable.not_not.mp hc203⟩]; rfl)) [] (List.Perm.of_eq (by first | rfl | exact (List.append_nil _).symm)) (Nat.le_refl _) (Nat.le_refl _)
  · refine hv_topi (y := zI (6)) (by rw [hq]) ?_
    refine hv_tabIn C dX9_command_21 (by decide) (by decide) rfl (tgt := 212) (by decide) ?_
    have hgb : ox_gb t5 q = ox_gbk t5 q 6 := by unfold ox_gb; rw [show (q / 1000).toNat = 6 by omega]
    have hgs : ox_gs t5 q = ox_gsk t5 q 6 := by unfold ox_gs; rw [show (q / 1000).toNat = 6 by omega]
    refine hv_iload_n C dX9_command_212 2 rfl ?_
    refine hv_iconst C dX9_command_213 (v := zI (2)) rfl ?_
    refine hv_icmp_ge C dX9_command_214 (tgt := 237) (by decide) (zI_le (by omega)) (fun hc214 => ?_) (fun hc214 => ?_)
    · refine hv_iconst C dX9_command_237 (v := zI (0)) rfl ?_
      exact hv_iret C M dX9_command_238 rfl zB_n2 (t5, ld, wv) ⟨(fun z => absurd z (by rw [show ox_gb t5 q = false from by rw [hgb]; refine decide_eq_false (fun z => ?_); rcases z with ⟨e6, z⟩ | ⟨e6, z⟩; (first | (rw [if_pos e6] at hc230; exact z hc230) | omega); (first | (rw [if_neg (by omega)] at hc230; exact z hc230) | omega)]; exact Bool.false_ne_true)), hl⟩ (hv_rv (by rw [show ox_gb t5 q = false from by rw [hgb]; refine decide_eq_false (fun z => ?_); rcases z with ⟨e6, z⟩ | ⟨e6, z⟩; (first | (rw [if_pos e6] at hc230; exact z hc230) | omega); (first | (rw [if_neg (by omega)] at hc230; exact z hc230) | omega)]; rfl)) [] (List.Perm.of_eq (by first | rfl | exact (List.append_nil _).symm)) (Nat.le_refl _) (Nat.le_refl _)
    · refine hv_aload_n C dX9_command_217 3 rfl ?_
      refine hv_get C dX9_command_218 (fun w h => hw_c (tw_u_9 w h)) 0 (ci := 7) rfl rfl 4 (by decide) (hw_c tw_f_RX9_16) rfl ?_
      refine hv_bipush C dX9_command_221 (v := zI (6)) (by decide +kernel) ?_
      refine hv_iload_n C dX9_command_223 2 rfl ?_
      refine hv_iadd C dX9_command_224 (zI_add _ _) ?_
      refine hv_iald C dX9_command_225 1 rfl ((6 + q / 100 % 10).toNat) (zI_ix (by omega)) (by omega) (by omega) (v := (zI (if q / 100 % 10 = 0 then t5 6 else t5 7))) (by rcases (show q / 100 % 10 = 0 ∨ q / 100 % 10 = 1 by omega) with e6 | e6 <;> rw [e6] <;> rfl) ?_
      refine hv_iload_n C dX9_command_226 5 rfl ?_
      refine hv_bipush C dX9_command_227 (v := zI (100)) (by decide +kernel) ?_
      refine hv_irem C dX9_command_229 (z := zI (q % 100)) ((zI_ne0 (by omega)).mpr (by omega)) ((zI_rem (by omega)).trans (zI_c (by omega))) ?_
      refine hv_icmp_gt C dX9_command_230 (tgt := 237) (by decide) (P := zI (q % 100) < zI (if q / 100 % 10 = 0 then t5 6 else t5 7)) Iff.rfl (fun hc230 => ?_) (fun hc230 => ?_)
      · refine hv_iconst C dX9_command_237 (v := zI (0)) rfl ?_
        exact hv_iret C M dX9_command_238 rfl zB_n2 (t5, ld, wv) ⟨(fun z => absurd z (by rw [show ox_gb t5 q = false from by rw [hgb]; refine decide_eq_false (fun z => ?_); rcases z with ⟨e6, z⟩ | ⟨e6, z⟩; (first | (rw [if_pos e6] at hc230; exact z hc230) | omega); (first | (rw [if_neg (by omega)] at hc230; exact z hc230) | omega)]; exact Bool.false_ne_true)), hl⟩ (hv_rv (by rw [show ox_gb t5 q = false from by rw [hgb]; refine decide_eq_false (fun z => ?_); rcases z with ⟨e6, z⟩ | ⟨e6, z⟩; (first | (rw [if_pos e6] at hc230; exact z hc230) | omega); (first | (rw [if_neg (by omega)] at hc230; exact z hc230) | omega)]; rfl)) [] (List.Perm.of_eq (by first | rfl | exact (List.append_nil _).symm)) (Nat.le_refl _) (Nat.le_refl _)
      · refine hv_iconst C dX9_command_233 (v := zI (1)) rfl ?_
        refine hv_goto C dX9_command_234 (tgt := 238) (by decide) ?_
        exact hv_iret C M dX9_command_238 rfl zB_n1 (t5, ld, wv) ⟨(fun _ => (by rw [hgs]; rfl)), hl⟩ (hv_rv (by rw [show ox_gb t5 q = true from by rw [hgb]; refine decide_eq_true ?_; rcases (show q / 100 % 10 = 0 ∨ q / 100 % 10 = 1 by omega) with e6 | e6; (rw [if_pos e6] at hc230; exact Or.inl ⟨e6, hc230⟩); (rw [if_neg (by omega)] at hc230; exact Or.inr ⟨e6, hc230⟩)]; rfl)) [] (List.Perm.of_eq (by first | rfl | exact (List.append_nil _).symm)) (Nat.le_refl _) (Nat.le_refl _)
  · refine hv_topi (y := zI (7)) (by rw [hq]) ?_
    refine hv_tabIn C dX9_command_21 (by decide) (by decide) rfl (tgt := 239) (by decide) ?_
    have hgb : ox_gb t5 q = ox_gbk t5 q 7 := by unfold ox_gb; rw [show (q / 1000).toNat = 7 by omega]
    have hgs : ox_gs t5 q = ox_gsk t5 q 7 := by unfold ox_gs; rw [show (q / 1000).toNat = 7 by omega]
    refine hv_iload C dX9_command_239 1 rfl ?_
    refine hv_if_ne C dX9_command_241 (tgt := 274) (by decide) (zI_ne0 (by omega)) (fun hc241 => ?_) (fun hc241 => ?_)
    · refine hv_iconst C dX9_command_274 (v := zI (0)) rfl ?_
      exact hv_iret C M dX9_command_275 rfl zB_n2 (t5, ld, wv) ⟨(fun z => absurd z (by rw [show ox_gb t5 q = false from by rw [hgb]; exact decide_eq_false (by omega)]; exact Bool.false_ne_true)), hl⟩ (hv_rv (by rw [show ox_gb t5 q = false from by rw [hgb]; exact decide_eq_false (by omega)]; rfl)) [] (List.Perm.of_eq (by first | rfl | exact (List.append_nil _).symm)) (Nat.le_refl _) (Nat.le_refl _)
    · refine hv_aload_n C dX9_command_244 3 rfl ?_
      refine hv_get C dX9_command_245 (fun w h => hw_c (tw_u_9 w h)) 0 (ci := 7) rfl rfl 4 (by decide) (hw_c tw_f_RX9_16) rfl ?_
      refine hv_iload_n C dX9_command_248 2 rfl ?_
      refine hv_callS (As := [.ref tr, .int (zI (q / 100 % 10))]) (rest := []) (wc := [(tr, .inl (dA 0, 12, .inl (fun i => zI (t5 i))))]) (wr := [(m9, .inr (7, [.int (zI (rf)), .ref xt, .int (zI (sz)), .ref nw, .ref tr, .ref di, .int (zI (ac)), .ref ke, .ref ik, .ref wt, .int (zI (ld)), .int (zI (sp)), .int (zI (ou))])), (wt, .inl (dA 0, 4096, .inl (fun i => zI (wv i))))]) C (k_X9_isStem l D dA tr t5 (by omega) (q / 100 % 10) (by omega)) (va_cwS 2 C.1.2.2.2.2 (hw_S tw_m_RX9_53 tw_t_X9_isStem tw_n_RX9 tw_k_X9_isStem) rfl rfl rfl (by decide +kernel) ⟨Nat.le_of_ble_eq_true rfl, Nat.le_of_ble_eq_true rfl⟩) (hv_pm [1] rfl) rfl rfl (Nat.le_of_ble_eq_true rfl) dX9_command_249 ⟨Nat.le_of_ble_eq_true rfl, Nat.le_of_ble_eq_true rfl⟩ (fun _ _ => ?_)
      refine hv_eqst (st' := [.int (zI (zB (decide (0 ≤ q / 100 % 10 ∧ q / 100 % 10 < t5 0))))]) rfl ?_
      refine hv_weq (ws' := [(tr, .inl (dA 0, 12, .inl (fun i => zI (t5 i)))), (m9, .inr (7, [.int (zI (rf)), .ref xt, .int (zI (sz)), .ref nw, .ref tr, .ref di, .int (zI (ac)), .ref ke, .ref ik, .ref wt, .int (zI (ld)), .int (zI (sp)), .int (zI (ou))])), (wt, .inl (dA 0, 4096, .inl (fun i => zI (wv i))))]) (rfl) ?_
      refine hv_srt [1, 0, 0] (ws' := [(m9, .inr (7, [.int (zI (rf)), .ref xt, .int (zI (sz)), .ref nw, .ref tr, .ref di, .int (zI (ac)), .ref ke, .ref ik, .ref wt, .int (zI (ld)), .int (zI (sp)), .int (zI (ou))])), (tr, .inl (dA 0, 12, .inl (fun i => zI (t5 i)))), (wt, .inl (dA 0, 4096, .inl (fun i => zI (wv i))))]) rfl ?_
      refine hv_if_eq C dX9_command_252 (tgt := 274) (by decide) zB_0 (fun hc252 => ?_) (fun hc252 => ?_)
      · refine hv_iconst C dX9_command_274 (v := zI (0)) rfl ?_
        exact hv_iret C M dX9_command_275 rfl zB_n2 (t5, ld, wv) ⟨(fun z => absurd z (by rw [show ox_gb t5 q = false from by rw [hgb]; exact decide_eq_false (by omega)]; exact Bool.false_ne_true)), hl⟩ (hv_rv (by rw [show ox_gb t5 q = false from by rw [hgb]; exact decide_eq_false (by omega)]; rfl)) [] (List.Perm.of_eq (by first | rfl | exact (List.append_nil _).symm)) (Nat.le_refl _) (Nat.le_refl _)
      · refine hv_aload_n C dX9_command_255 3 rfl ?_
        refine hv_get C dX9_command_256 (fun w h => hw_c (tw_u_9 w h)) 0 (ci := 7) rfl rfl 4 (by decide) (hw_c tw_f_RX9_16) rfl ?_
        refine hv_iconst C dX9_command_259 (v := zI (1)) rfl ?_
        refine hv_iald C dX9_command_260 1 rfl (1) (rfl) (by omega) (by omega) (v := (zI (t5 1))) rfl ?_
        refine hv_iload_n C dX9_command_261 2 rfl ?_
        refine hv_callS (As := [.int (zI (t5 1)), .int (zI (q / 100 % 10))]) (rest := []) (wc := []) (wr := [(m9, .inr (7, [.int (zI (rf)), .ref xt, .int (zI (sz)), .ref nw, .ref tr, .ref di, .int (zI (ac)), .ref ke, .ref ik, .ref wt, .int (zI (ld)), .int (zI (sp)), .int (zI (ou))])), (tr, .inl (dA 0, 12, .inl (fun i => zI (t5 i)))), (wt, .inl (dA 0, 4096, .inl (fun i => zI (wv i))))]) C (k_X9_leavesOf l D dA (gH t5) (q / 100 % 10).toNat ht.e1 (by omega) (by omega) (by omega)) (va_cwS 2 C.1.2.2.2.2 (hw_S tw_m_RX9_47 tw_t_X9_leavesOf tw_n_RX9 tw_k_X9_leavesOf) rfl rfl rfl (by decide +kernel) ⟨Nat.le_of_ble_eq_true rfl, Nat.le_of_ble_eq_true rfl⟩) (hv_pm [] rfl) rfl rfl (Nat.le_of_ble_eq_true rfl) dX9_command_262 ⟨Nat.le_of_ble_eq_true rfl, Nat.le_of_ble_eq_true rfl⟩ (fun _ _ => ?_)
        have hdl7 := sp_dg_lt (gH t5) (q / 100 % 10).toNat
        refine hv_eqst (st' := [.int (zI ((sp_dg (gH t5) (q / 100 % 10).toNat : Int)))]) rfl ?_
        refine hv_weq (ws' := [(m9, .inr (7, [.int (zI (rf)), .ref xt, .int (zI (sz)), .ref nw, .ref tr, .ref di, .int (zI (ac)), .ref ke, .ref ik, .ref wt, .int (zI (ld)), .int (zI (sp)), .int (zI (ou))])), (tr, .inl (dA 0, 12, .inl (fun i => zI (t5 i)))), (wt, .inl (dA 0, 4096, .inl (fun i => zI (wv i))))]) (rfl) ?_
        refine hv_iload C dX9_command_265 0 rfl ?_
        refine hv_icmp_ne C dX9_command_267 (tgt := 274) (by decide) (zI_ne (by omega)) (fun hc267 => ?_) (fun hc267 => ?_)
        · refine hv_iconst C dX9_command_274 (v := zI (0)) rfl ?_
          exact hv_iret C M dX9_command_275 rfl zB_n2 (t5, ld, wv) ⟨(fun z => absurd z (by rw [show ox_gb t5 q = false from by rw [hgb]; exact decide_eq_false (by omega)]; exact Bool.false_ne_true)), hl⟩ (hv_rv (by rw [show ox_gb t5 q = false from by rw [hgb]; exact decide_eq_false (by omega)]; rfl)) [] (List.Perm.of_eq (by first | rfl | exact (List.append_nil _).symm)) (Nat.le_refl _) (Nat.le_refl _)
        · refine hv_iconst C dX9_command_270 (v := zI (1)) rfl ?_
          refine hv_goto C dX9_command_271 (tgt := 275) (by decide) ?_
          exact hv_iret C M dX9_command_275 rfl zB_n1 (t5, ld, wv) ⟨(fun _ => (by rw [hgs]; rfl)), hl⟩ (hv_rv (by rw [show ox_gb t5 q = true from by rw [hgb]; exact decide_eq_true (by omega)]; rfl)) [] (List.Perm.of_eq (by first | rfl | exact (List.append_nil _).symm)) (Nat.le_refl _) (Nat.le_refl _)
  · refine hv_topi (y := zI (8)) (by rw [hq]) ?_
    refine hv_tabIn C dX9_command_21 (by decide) (by decide) rfl (tgt := 276) (by decide) ?_
    have hgb : ox_gb t5 q = ox_gbk t5 q 8 := by unfold ox_gb; rw [show (q / 1000).toNat = 8 by omega]
    have hgs : ox_gs t5 q = ox_gsk t5 q 8 := by unfold ox_gs; rw [show (q / 1000).toNat = 8 by omega]
    refine hv_iload_n C dX9_command_276 2 rfl ?_
    refine hv_if_ne C dX9_command_277 (tgt := 297) (by decide) (zI_ne0 (by omega)) (fun hc277 => ?_) (fun hc277 => ?_)
    · refine hv_iconst C dX9_command_297 (v := zI (0)) rfl ?_
      exact hv_iret C M dX9_command_298 rfl zB_n2 (t5, ld, wv) ⟨(fun z => absurd z (by rw [show ox_gb t5 q = false from by rw [hgb]; exact decide_eq_false (by omega)]; exact Bool.false_ne_true)), hl⟩ (hv_rv (by rw [show ox_gb t5 q = false from by rw [hgb]; exact decide_eq_false (by omega)]; rfl)) [] (List.Perm.of_eq (by first | rfl | exact (List.append_nil _).symm)) (Nat.le_refl _) (Nat.le_refl _)
    · refine hv_aload_n C dX9_command_280 3 rfl ?_
      refine hv_aload_n C dX9_command_281 3 rfl ?_
      refine hv_get C dX9_command_282 (fun w h => hw_c (tw_u_9 w h)) 0 (ci := 7) rfl rfl 4 (by decide) (hw_c tw_f_RX9_16) rfl ?_
      refine hv_callV (As := [.ref tr]) (rest := []) (wc := [(m9, .inr (7, [.int (zI (rf)), .ref xt, .int (zI (sz)), .ref nw, .ref tr, .ref di, .int (zI (ac)), .ref ke, .ref ik, .ref wt, .int (zI (ld)), .int (zI (sp)), .int (zI (ou))])), (tr, .inl (dA 0, 12, .inl (fun i => zI (t5 i)))), (wt, .inl (dA 0, 4096, .inl (fun i => zI (wv i))))]) (wr := []) C (k_X9_worthOf l D dA m9 xt nw tr di ke ik wt rf sz ac ld sp ou tr t5 ht wv hl) (cwV 1 C.1.2.2.2.2 (hw_V tw_m_RX9_114 tw_i_X9_worthOf tw_s_X9_worthOf tw_n_RX9 tw_k_X9_worthOf) rfl rfl rfl (by decide +kernel) ⟨Nat.le_of_ble_eq_true rfl, Nat.le_of_ble_eq_true rfl⟩) (hv_pm [0, 0, 0] rfl) rfl 0 7 rfl rfl rfl (Nat.le_of_ble_eq_true rfl) dX9_command_285 ⟨Nat.le_of_ble_eq_true rfl, Nat.le_of_ble_eq_true rfl⟩ (fun u7 hu7 => ?_)
      refine hv_eqst (st' := [.int (zI (ox_w t5))]) rfl ?_
      refine hv_weq (ws' := [(m9, .inr (7, [.int (zI (rf)), .ref xt, .int (zI (sz)), .ref nw, .ref tr, .ref di, .int (zI (ac)), .ref ke, .ref ik, .ref wt, .int (zI (mz_key t5)), .int (zI (sp)), .int (zI (ou))])), (tr, .inl (dA 0, 12, .inl (fun i => zI (t5 i)))), (wt, .inl (dA 0, 4096, .inl (fun i => zI (u7 i))))]) (rfl) ?_
      refine hv_iload_n C dX9_command_288 5 rfl ?_
      refine hv_ineg C dX9_command_289 (zI_neg _) ?_
      have hwr := ox_w_ran ht ht.H
      change -54 ≤ ox_w t5 ∧ ox_w t5 ≤ 54 at hwr
      refine hv_icmp_lt C dX9_command_290 (tgt := 297) (by decide) (zI_lt (by omega)) (fun hc290 => ?_) (fun hc290 => ?_)
      · refine hv_iconst C dX9_command_297 (v := zI (0)) rfl ?_
        exact hv_iret C M dX9_command_298 rfl zB_n2 (t5, mz_key t5, u7) ⟨(fun z => absurd z (by rw [show ox_gb t5 q = false from by rw [hgb]; exact decide_eq_false (by omega)]; exact Bool.false_ne_true)), (mz_LW_new ht hu7)⟩ (hv_rv (by rw [show ox_gb t5 q = false from by rw [hgb]; exact decide_eq_false (by omega)]; rfl)) [] (List.Perm.of_eq (by first | rfl | exact (List.append_nil _).symm)) (Nat.le_refl _) (Nat.le_refl _)
      · refine hv_iconst C dX9_command_293 (v := zI (1)) rfl ?_
        refine hv_goto C dX9_command_294 (tgt := 298) (by decide) ?_
        exact hv_iret C M dX9_command_298 rfl zB_n1 (t5, mz_key t5, u7) ⟨(fun _ => (by rw [hgs]; rfl)), (mz_LW_new ht hu7)⟩ (hv_rv (by rw [show ox_gb t5 q = true from by rw [hgb]; exact decide_eq_true (by omega)]; rfl)) [] (List.Perm.of_eq (by first | rfl | exact (List.append_nil _).symm)) (Nat.le_refl _) (Nat.le_refl _)
  · refine hv_topi (y := zI (9)) (by rw [hq]) ?_
    refine hv_tabIn C dX9_command_21 (by decide) (by decide) rfl (tgt := 299) (by decide) ?_
    have hgb : ox_gb t5 q = ox_gbk t5 q 9 := by unfold ox_gb; rw [show (q / 1000).toNat = 9 by omega]
    have hgs : ox_gs t5 q = ox_gsk t5 q 9 := by unfold ox_gs; rw [show (q / 1000).toNat = 9 by omega]
    refine hv_iload_n C dX9_command_299 5 rfl ?_
    refine hv_bipush C dX9_command_300 (v := zI (10)) (by decide +kernel) ?_
    refine hv_icmp_ge C dX9_command_302 (tgt := 321) (by decide) (zI_le (by omega)) (fun hc302 => ?_) (fun hc302 => ?_)
    · refine hv_iconst C dX9_command_321 (v := zI (0)) rfl ?_
      exact hv_iret C M dX9_command_322 rfl zB_n2 (t5, ld, wv) ⟨(fun z => absurd z (by rw [show ox_gb t5 q = false from by rw [hgb]; exact decide_eq_false (by omega)]; exact Bool.false_ne_true)), hl⟩ (hv_rv (by rw [show ox_gb t5 q = false from by rw [hgb]; exact decide_eq_false (by omega)]; rfl)) [] (List.Perm.of_eq (by first | rfl | exact (List.append_nil _).symm)) (Nat.le_refl _) (Nat.le_refl _)
    · refine hv_aload_n C dX9_command_305 3 rfl ?_
      refine hv_aload_n C dX9_command_306 3 rfl ?_
      refine hv_get C dX9_command_307 (fun w h => hw_c (tw_u_9 w h)) 0 (ci := 7) rfl rfl 4 (by decide) (hw_c tw_f_RX9_16) rfl ?_
      refine hv_callV (As := [.ref tr]) (rest := []) (wc := [(m9, .inr (7, [.int (zI (rf)), .ref xt, .int (zI (sz)), .ref nw, .ref tr, .ref di, .int (zI (ac)), .ref ke, .ref ik, .ref wt, .int (zI (ld)), .int (zI (sp)), .int (zI (ou))])), (tr, .inl (dA 0, 12, .inl (fun i => zI (t5 i)))), (wt, .inl (dA 0, 4096, .inl (fun i => zI (wv i))))]) (wr := []) C (k_X9_winnerOf l D dA m9 xt nw tr di ke ik wt rf sz ac ld sp ou tr t5 ht wv hl) (cwV 1 C.1.2.2.2.2 (hw_V tw_m_RX9_184 tw_i_X9_winnerOf tw_s_X9_winnerOf tw_n_RX9 tw_k_X9_winnerOf) rfl rfl rfl (by decide +kernel) ⟨Nat.le_of_ble_eq_true rfl, Nat.le_of_ble_eq_true rfl⟩) (hv_pm [0, 0, 0] rfl) rfl 0 7 rfl rfl rfl (Nat.le_of_ble_eq_true rfl) dX9_command_310 ⟨Nat.le_of_ble_eq_true rfl, Nat.le_of_ble_eq_true rfl⟩ (fun u7 hu7 => ?_)
      refine hv_eqst (st' := [.int (zI (ox_win t5))]) rfl ?_
      refine hv_weq (ws' := [(m9, .inr (7, [.int (zI (rf)), .ref xt, .int (zI (sz)), .ref nw, .ref tr, .ref di, .int (zI (ac)), .ref ke, .ref ik, .ref wt, .int (zI (mz_key t5)), .int (zI (sp)), .int (zI (ou))])), (tr, .inl (dA 0, 12, .inl (fun i => zI (t5 i)))), (wt, .inl (dA 0, 4096, .inl (fun i => zI (u7 i))))]) (rfl) ?_
      refine hv_iload_n C dX9_command_313 5 rfl ?_
      have hwn := ox_win_ran ht
      refine hv_icmp_ne C dX9_command_314 (tgt := 321) (by decide) (zI_ne (by omega)) (fun hc314 => ?_) (fun hc314 => ?_)
      · refine hv_iconst C dX9_command_321 (v := zI (0)) rfl ?_
        exact hv_iret C M dX9_command_322 rfl zB_n2 (t5, mz_key t5, u7) ⟨(fun z => absurd z (by rw [show ox_gb t5 q = false from by rw [hgb]; exact decide_eq_false (by omega)]; exact Bool.false_ne_true)), (mz_LW_new ht hu7)⟩ (hv_rv (by rw [show ox_gb t5 q = false from by rw [hgb]; exact decide_eq_false (by omega)]; rfl)) [] (List.Perm.of_eq (by first | rfl | exact (List.append_nil _).symm)) (Nat.le_refl _) (Nat.le_refl _)
      · refine hv_iconst C dX9_command_317 (v := zI (1)) rfl ?_
        refine hv_goto C dX9_command_318 (tgt := 322) (by decide) ?_
        exact hv_iret C M dX9_command_322 rfl zB_n1 (t5, mz_key t5, u7) ⟨(fun _ => (by rw [hgs]; rfl)), (mz_LW_new ht hu7)⟩ (hv_rv (by rw [show ox_gb t5 q = true from by rw [hgb]; exact decide_eq_true (by omega)]; rfl)) [] (List.Perm.of_eq (by first | rfl | exact (List.append_nil _).symm)) (Nat.le_refl _) (Nat.le_refl _)
  · refine hv_tabOut C dX9_command_21 (by rw [zI_toInt (by omega)]; omega) (tgt := 323) (by decide) ?_
    have hk0 : q / 1000 = 0 := by omega
    have hgb : ox_gb t5 q = ox_gbk t5 q 0 := by unfold ox_gb; rw [show (q / 1000).toNat = 0 by omega]
    have hgs : ox_gs t5 q = ox_gsk t5 q 0 := by unfold ox_gs; rw [show (q / 1000).toNat = 0 by omega]
    refine hv_iconst C dX9_command_323 (v := zI (0)) rfl ?_
    exact hv_iret C M dX9_command_324 rfl zB_n2 (t5, ld, wv) ⟨(fun z => absurd z (by rw [show ox_gb t5 q = false from by rw [hgb]; rfl]; exact Bool.false_ne_true)), hl⟩ (hv_rv (by rw [hgb]; rfl)) [] (List.Perm.of_eq (by first | rfl | exact (List.append_nil _).symm)) (Nat.le_refl _) (Nat.le_refl _)

set_option maxHeartbeats 4000000 in
set_option maxRecDepth 100000 in
theorem k_X9_turn (l : Launch) (D : va_G) (dA : Nat → ClassId) (r9 : Nat) (g : Nat → Int) (hg : WF g) (x : Int) (hx : 0 ≤ x ∧ x < 2147483648) : hv_Ct l yX9_turn (hw_W yX9_turn cX9_turn 5 none) 5 D dA [.ref r9, .int (zI (x))] ([(r9, .inl (dA 0, 12, .inl (fun i => zI (g i))))]) 0 0 (S := Unit) (fun _ => none) (fun _ => True) (fun _ => [(r9, .inl (dA 0, 12, .inl (fun i => zI ((ox_st g x) i))))]) := by
  have hg0 := hg.1
  have hg1 := hg.e1
  have hgx := hg.x
  have hg5 := hg.2.2.2.2.2
  have hgR := hg.R
  have hgS := hg.S
  have hge0 := hg.e0
  have hge5 := hg.e5
  refine hv_of (cc := cX9_turn) (maxL := 5) (ret := none) (own := RX9) rfl (by decide) rfl (Nat.le_of_ble_eq_true rfl) ?_
  intro p e s m args below meth c C M
  refine hv_lveq (lv' := [(0, .ref r9), (1, .int (zI (x)))]) rfl ?_
  refine hv_iload_n C dX9_turn_0 1 rfl ?_
  refine hv_bipush C dX9_turn_1 (v := zI (8)) (by decide +kernel) ?_
  refine hv_idiv C dX9_turn_3 (z := zI (x / 8)) ((zI_ne0 (by omega)).mpr (by omega)) ((zI_div (by omega)).trans (zI_c (by omega))) ?_
  refine hv_istore_n C dX9_turn_4 (lw := [(2, .int (zI (x / 8))), (0, .ref r9), (1, .int (zI (x)))]) (by decide) rfl ?_
  refine hv_iload_n C dX9_turn_5 2 rfl ?_
  refine hv_bipush C dX9_turn_6 (v := zI (8)) (by decide +kernel) ?_
  refine hv_irem C dX9_turn_8 (z := zI (x % 8)) ((zI_ne0 (by omega)).mpr (by omega)) ((zI_rem (by omega)).trans (zI_c (by omega))) ?_
  rcases (show ((x % 8) = 0) ∨ ((x % 8) = 1) ∨ ((x % 8) = 2) ∨ (3 ≤ x % 8) by omega) with hq | hq | hq | hq
  · refine hv_topi (y := zI (0)) (by rw [hq]) ?_
    refine hv_tabIn C dX9_turn_9 (by decide) (by decide) rfl (tgt := 36) (by decide) ?_
    refine hv_aload_n C dX9_turn_36 1 rfl ?_
    refine hv_iload_n C dX9_turn_37 0 rfl ?_
    refine hv_bipush C dX9_turn_38 (v := zI (6)) (by decide +kernel) ?_
    refine hv_irem C dX9_turn_40 (z := zI (x / 8 % 6)) ((zI_ne0 (by omega)).mpr (by omega)) ((zI_rem (by omega)).trans (zI_c (by omega))) ?_
    refine hv_callS (As := [.ref r9, .int (zI (x / 8 % 6))]) (rest := []) (wc := [(r9, .inl (dA 0, 12, .inl (fun i => zI (g i))))]) (wr := []) C (k_X9_canWater l D dA r9 g hg (x / 8 % 6) (by omega)) (va_cwS 2 C.1.2.2.2.2 (hw_S tw_m_RX9_140 tw_t_X9_canWater tw_n_RX9 tw_k_X9_canWater) rfl rfl rfl (by decide +kernel) ⟨Nat.le_of_ble_eq_true rfl, Nat.le_of_ble_eq_true rfl⟩) (hv_pm [0] rfl) rfl rfl (Nat.le_of_ble_eq_true rfl) dX9_turn_41 ⟨Nat.le_of_ble_eq_true rfl, Nat.le_of_ble_eq_true rfl⟩ (fun _ _ => ?_)
    refine hv_eqst (st' := [.int (zI (zB (ox_cw g (x / 8 % 6))))]) rfl ?_
    refine hv_weq (ws' := [(r9, .inl (dA 0, 12, .inl (fun i => zI (g i))))]) (rfl) ?_
    refine hv_if_eq C dX9_turn_44 (tgt := 148) (by decide) zB_e (fun hc44 => ?_) (fun hc44 => ?_)
    · exact hv_vret C M dX9_turn_148 rfl () trivial rfl [] (List.Perm.of_eq (by rw [show ox_st g x = g from by unfold ox_st; rw [if_pos (by omega)]; rw [mz_tw_f hc44]]; rfl)) (Nat.le_refl _) (Nat.le_refl _)
    · have hcn := Decidable.not_not.mp hc44
      have hct := (ox_cw_t hcn).1
      refine hv_aload_n C dX9_turn_47 1 rfl ?_
      refine hv_iload_n C dX9_turn_48 0 rfl ?_
      refine hv_bipush C dX9_turn_49 (v := zI (6)) (by decide +kernel) ?_
      refine hv_irem C dX9_turn_51 (z := zI (x / 8 % 6)) ((zI_ne0 (by omega)).mpr (by omega)) ((zI_rem (by omega)).trans (zI_c (by omega))) ?_
      refine hv_callS (As := [.ref r9, .int (zI (x / 8 % 6))]) (rest := []) (wc := [(r9, .inl (dA 0, 12, .inl (fun i => zI (g i))))]) (wr := []) C (k_X9_waterOn l D dA r9 g hg (x / 8 % 6).toNat (by omega) (by omega) ((ox_cw_t (hcn)).2)) (va_cwS 2 C.1.2.2.2.2 (hw_S tw_m_RX9_143 tw_t_X9_waterOn tw_n_RX9 tw_k_X9_waterOn) rfl rfl rfl (by decide +kernel) ⟨Nat.le_of_ble_eq_true rfl, Nat.le_of_ble_eq_true rfl⟩) (hv_pm [0] rfl) rfl rfl (Nat.le_of_ble_eq_true rfl) dX9_turn_52 ⟨Nat.le_of_ble_eq_true rfl, Nat.le_of_ble_eq_true rfl⟩ (fun _ _ => ?_)
      have hdg := mz_dg1 ((ox_cw_t (hcn)).2)
      have hdl := sp_dg_lt (gH g) (x / 8 % 6).toNat
      refine hv_eqst (st' := [.int (zI ((sp_dg (gH g + 4 ^ (x / 8 % 6).toNat) (x / 8 % 6).toNat : Int)))]) rfl ?_
      refine hv_weq (ws' := [(r9, .inl (dA 0, 12, .inl (fun i => zI ((ox_wat g (((x / 8 % 6).toNat : Nat) : Int)) i))))]) (rfl) ?_
      refine hv_pop C dX9_turn_55 rfl ?_
      refine hv_goto C dX9_turn_56 (tgt := 148) (by decide) ?_
      exact hv_vret C M dX9_turn_148 rfl () trivial rfl [] (List.Perm.of_eq (by rw [show ox_st g x = (ox_wat g (((x / 8 % 6).toNat : Nat) : Int)) from by unfold ox_st; rw [if_pos (by omega)]; rw [mz_tw_t hcn]]; rfl)) (Nat.le_refl _) (Nat.le_refl _)
  · refine hv_topi (y := zI (1)) (by rw [hq]) ?_
    refine hv_tabIn C dX9_turn_9 (by decide) (by decide) rfl (tgt := 59) (by decide) ?_
    refine hv_aload_n C dX9_turn_59 1 rfl ?_
    refine hv_iload_n C dX9_turn_60 0 rfl ?_
    refine hv_iconst C dX9_turn_61 (v := zI (3)) rfl ?_
    refine hv_irem C dX9_turn_62 (z := zI (x / 8 % 3)) ((zI_ne0 (by omega)).mpr (by omega)) ((zI_rem (by omega)).trans (zI_c (by omega))) ?_
    refine hv_callS (As := [.ref r9, .int (zI (x / 8 % 3))]) (rest := []) (wc := [(r9, .inl (dA 0, 12, .inl (fun i => zI (g i))))]) (wr := []) C (k_X9_windOn l D dA r9 g (x / 8 % 3)) (va_cwS 2 C.1.2.2.2.2 (hw_S tw_m_RX9_146 tw_t_X9_windOn tw_n_RX9 tw_k_X9_windOn) rfl rfl rfl (by decide +kernel) ⟨Nat.le_of_ble_eq_true rfl, Nat.le_of_ble_eq_true rfl⟩) (hv_pm [0] rfl) rfl rfl (Nat.le_of_ble_eq_true rfl) dX9_turn_63 ⟨Nat.le_of_ble_eq_true rfl, Nat.le_of_ble_eq_true rfl⟩ (fun _ _ => ?_)
    refine hv_eqst (st' := [.int (zI (g 2))]) rfl ?_
    refine hv_weq (ws' := [(r9, .inl (dA 0, 12, .inl (fun i => zI ((sp_set g 2 (x / 8 % 3)) i))))]) (rfl) ?_
    refine hv_pop C dX9_turn_66 rfl ?_
    refine hv_goto C dX9_turn_67 (tgt := 148) (by decide) ?_
    exact hv_vret C M dX9_turn_148 rfl () trivial rfl [] (List.Perm.of_eq (by rw [show ox_st g x = (sp_set g 2 (x / 8 % 3)) from by unfold ox_st; rw [if_neg (by omega), if_pos (by omega)]; unfold ox_ti; rw [if_pos (by omega)]]; rfl)) (Nat.le_refl _) (Nat.le_refl _)
  · refine hv_topi (y := zI (2)) (by rw [hq]) ?_
    refine hv_tabIn C dX9_turn_9 (by decide) (by decide) rfl (tgt := 70) (by decide) ?_
    refine hv_iload_n C dX9_turn_70 0 rfl ?_
    refine hv_iconst C dX9_turn_71 (v := zI (4)) rfl ?_
    refine hv_irem C dX9_turn_72 (z := zI (x / 8 % 4)) ((zI_ne0 (by omega)).mpr (by omega)) ((zI_rem (by omega)).trans (zI_c (by omega))) ?_
    refine hv_if_ne C dX9_turn_73 (tgt := 84) (by decide) (zI_ne0 (by omega)) (fun hc73 => ?_) (fun hc73 => ?_)
    · refine hv_aload_n C dX9_turn_84 1 rfl ?_
      refine hv_iconst C dX9_turn_85 (v := zI (4)) rfl ?_
      refine hv_iconst C dX9_turn_86 (v := zI (1)) rfl ?_
      refine hv_iload_n C dX9_turn_87 0 rfl ?_
      refine hv_bipush C dX9_turn_88 (v := zI (9)) (by decide +kernel) ?_
      refine hv_irem C dX9_turn_90 (z := zI (x / 8 % 9)) ((zI_ne0 (by omega)).mpr (by omega)) ((zI_rem (by omega)).trans (zI_c (by omega))) ?_
      refine hv_iadd C dX9_turn_91 (z := zI (1 + x / 8 % 9)) ((zI_add _ _).trans (zI_c (by omega))) ?_
      refine hv_iast C dX9_turn_92 0 rfl (4) (rfl) (by omega) (by omega) ?_
      refine hv_weq (ws' := [(r9, .inl (dA 0, 12, .inl (fun i => zI ((sp_set g 4 (1 + x / 8 % 9)) i))))]) (by rw [sp_upd]; rfl) ?_
      refine hv_goto C dX9_turn_93 (tgt := 148) (by decide) ?_
      exact hv_vret C M dX9_turn_148 rfl () trivial rfl [] (List.Perm.of_eq (by rw [show ox_st g x = (sp_set g 4 (1 + x / 8 % 9)) from by unfold ox_st; rw [if_neg (by omega), if_neg (by omega), if_pos (by omega)]; rw [if_neg (by omega)]]; rfl)) (Nat.le_refl _) (Nat.le_refl _)
    · refine hv_aload_n C dX9_turn_76 1 rfl ?_
      refine hv_callS (As := [.ref r9]) (rest := []) (wc := [(r9, .inl (dA 0, 12, .inl (fun i => zI (g i))))]) (wr := []) C (k_X9_passOn l D dA r9 g) (va_cwS 1 C.1.2.2.2.2 (hw_S tw_m_RX9_149 tw_t_X9_passOn tw_n_RX9 tw_k_X9_passOn) rfl rfl rfl (by decide +kernel) ⟨Nat.le_of_ble_eq_true rfl, Nat.le_of_ble_eq_true rfl⟩) (hv_pm [0] rfl) rfl rfl (Nat.le_of_ble_eq_true rfl) dX9_turn_77 ⟨Nat.le_of_ble_eq_true rfl, Nat.le_of_ble_eq_true rfl⟩ (fun _ _ => ?_)
      refine hv_eqst (st' := [.int (zI (1 - g 3))]) rfl ?_
      refine hv_weq (ws' := [(r9, .inl (dA 0, 12, .inl (fun i => zI ((ox_ps g) i))))]) (rfl) ?_
      refine hv_pop C dX9_turn_80 rfl ?_
      refine hv_goto C dX9_turn_81 (tgt := 148) (by decide) ?_
      exact hv_vret C M dX9_turn_148 rfl () trivial rfl [] (List.Perm.of_eq (by rw [show ox_st g x = (ox_ps g) from by unfold ox_st; rw [if_neg (by omega), if_neg (by omega), if_pos (by omega)]; rw [if_pos (by omega)]]; rfl)) (Nat.le_refl _) (Nat.le_refl _)
  · refine hv_tabOut C dX9_turn_9 (by rw [zI_toInt (by omega)]; omega) (tgt := 96) (by decide) ?_
    refine hv_iload_n C dX9_turn_96 0 rfl ?_
    refine hv_bipush C dX9_turn_97 (v := zI (6)) (by decide +kernel) ?_
    refine hv_irem C dX9_turn_99 (z := zI (x / 8 % 6)) ((zI_ne0 (by omega)).mpr (by omega)) ((zI_rem (by omega)).trans (zI_c (by omega))) ?_
    refine hv_istore_n C dX9_turn_100 (lw := [(3, .int (zI (x / 8 % 6))), (2, .int (zI (x / 8))), (0, .ref r9), (1, .int (zI (x)))]) (by decide) rfl ?_
    refine hv_iload_n C dX9_turn_101 0 rfl ?_
    refine hv_iload_n C dX9_turn_102 1 rfl ?_
    refine hv_bipush C dX9_turn_103 (v := zI (8)) (by decide +kernel) ?_
    refine hv_idiv C dX9_turn_105 (z := zI (x / 8 / 8)) ((zI_ne0 (by omega)).mpr (by omega)) ((zI_div (by omega)).trans (zI_c (by omega))) ?_
    refine hv_iconst C dX9_turn_106 (v := zI (3)) rfl ?_
    refine hv_irem C dX9_turn_107 (z := zI (x / 8 / 8 % 3)) ((zI_ne0 (by omega)).mpr (by omega)) ((zI_rem (by omega)).trans (zI_c (by omega))) ?_
    refine hv_iadd C dX9_turn_108 (z := zI (x / 8 % 6 + x / 8 / 8 % 3)) ((zI_add _ _).trans (zI_c (by omega))) ?_
    refine hv_istore C dX9_turn_109 (lw := [(4, .int (zI (x / 8 % 6 + x / 8 / 8 % 3))), (3, .int (zI (x / 8 % 6))), (2, .int (zI (x / 8))), (0, .ref r9), (1, .int (zI (x)))]) (by decide) rfl ?_
    refine hv_aload_n C dX9_turn_111 3 rfl ?_
    refine hv_aload_n C dX9_turn_112 3 rfl ?_
    refine hv_iconst C dX9_turn_113 (v := zI (1)) rfl ?_
    refine hv_iald C dX9_turn_114 0 rfl (1) (rfl) (by omega) (by omega) (v := (zI (g 1))) rfl ?_
    refine hv_iload_n C dX9_turn_115 1 rfl ?_
    refine hv_iload C dX9_turn_116 0 rfl ?_
    refine hv_iconst C dX9_turn_118 (v := zI (1)) rfl ?_
    refine hv_iload_n C dX9_turn_119 2 rfl ?_
    refine hv_bipush C dX9_turn_120 (v := zI (32)) (by decide +kernel) ?_
    refine hv_idiv C dX9_turn_122 (z := zI (x / 8 / 32)) ((zI_ne0 (by omega)).mpr (by omega)) ((zI_div (by omega)).trans (zI_c (by omega))) ?_
    refine hv_iconst C dX9_turn_123 (v := zI (3)) rfl ?_
    refine hv_irem C dX9_turn_124 (z := zI (x / 8 / 32 % 3)) ((zI_ne0 (by omega)).mpr (by omega)) ((zI_rem (by omega)).trans (zI_c (by omega))) ?_
    refine hv_iadd C dX9_turn_125 (z := zI (1 + x / 8 / 32 % 3)) ((zI_add _ _).trans (zI_c (by omega))) ?_
    refine hv_callS (As := [.ref r9, .int (zI (g 1)), .int (zI (x / 8 % 6)), .int (zI (x / 8 % 6 + x / 8 / 8 % 3)), .int (zI (1 + x / 8 / 32 % 3))]) (rest := []) (wc := [(r9, .inl (dA 0, 12, .inl (fun i => zI (g i))))]) (wr := []) C (k_X9_canClip l D dA r9 g hg (gH g) hg.e1 hg.x (x / 8 % 6) (by omega) (x / 8 % 6 + x / 8 / 8 % 3) (by omega) (1 + x / 8 / 32 % 3) (by omega)) (va_cwS 5 C.1.2.2.2.2 (hw_S tw_m_RX9_80 tw_t_X9_canClip tw_n_RX9 tw_k_X9_canClip) rfl rfl rfl (by decide +kernel) ⟨Nat.le_of_ble_eq_true rfl, Nat.le_of_ble_eq_true rfl⟩) (hv_pm [0] rfl) rfl rfl (Nat.le_of_ble_eq_true rfl) dX9_turn_126 ⟨Nat.le_of_ble_eq_true rfl, Nat.le_of_ble_eq_true rfl⟩ (fun _ _ => ?_)
    refine hv_eqst (st' := [.int (zI (zB (ox_can g (x / 8 % 6) (x / 8 % 6 + x / 8 / 8 % 3) (1 + x / 8 / 32 % 3))))]) rfl ?_
    refine hv_weq (ws' := [(r9, .inl (dA 0, 12, .inl (fun i => zI (g i))))]) (rfl) ?_
    refine hv_if_eq C dX9_turn_129 (tgt := 148) (by decide) zB_e (fun hc129 => ?_) (fun hc129 => ?_)
    · exact hv_vret C M dX9_turn_148 rfl () trivial rfl [] (List.Perm.of_eq (by rw [show ox_st g x = g from by unfold ox_st; rw [if_neg (by omega), if_neg (by omega), if_neg (by omega)]; rw [mz_tc_f hc129]]; rfl)) (Nat.le_refl _) (Nat.le_refl _)
    · have hcn := Decidable.not_not.mp hc129
      have hct := (ox_can_t hcn).1
      refine hv_aload_n C dX9_turn_132 3 rfl ?_
      refine hv_iload_n C dX9_turn_133 1 rfl ?_
      refine hv_iload C dX9_turn_134 0 rfl ?_
      refine hv_iconst C dX9_turn_136 (v := zI (1)) rfl ?_
      refine hv_iload_n C dX9_turn_137 2 rfl ?_
      refine hv_bipush C dX9_turn_138 (v := zI (32)) (by decide +kernel) ?_
      refine hv_idiv C dX9_turn_140 (z := zI (x / 8 / 32)) ((zI_ne0 (by omega)).mpr (by omega)) ((zI_div (by omega)).trans (zI_c (by omega))) ?_
      refine hv_iconst C dX9_turn_141 (v := zI (3)) rfl ?_
      refine hv_irem C dX9_turn_142 (z := zI (x / 8 / 32 % 3)) ((zI_ne0 (by omega)).mpr (by omega)) ((zI_rem (by omega)).trans (zI_c (by omega))) ?_
      refine hv_iadd C dX9_turn_143 (z := zI (1 + x / 8 / 32 % 3)) ((zI_add _ _).trans (zI_c (by omega))) ?_
      refine hv_callS (As := [.ref r9, .int (zI (x / 8 % 6)), .int (zI (x / 8 % 6 + x / 8 / 8 % 3)), .int (zI (1 + x / 8 / 32 % 3))]) (rest := []) (wc := [(r9, .inl (dA 0, 12, .inl (fun i => zI (g i))))]) (wr := []) C (k_X9_clipOn l D dA r9 g hg (x / 8 % 6).toNat (x / 8 % 6 + x / 8 / 8 % 3).toNat (1 + x / 8 / 32 % 3).toNat (by omega) (by omega) (by omega) (by omega) (by omega) (by omega)) (va_cwS 4 C.1.2.2.2.2 (hw_S tw_m_RX9_108 tw_t_X9_clipOn tw_n_RX9 tw_k_X9_clipOn) rfl rfl rfl (by decide +kernel) ⟨Nat.le_of_ble_eq_true rfl, Nat.le_of_ble_eq_true rfl⟩) (hv_pm [0] rfl) rfl rfl (Nat.le_of_ble_eq_true rfl) dX9_turn_144 ⟨Nat.le_of_ble_eq_true rfl, Nat.le_of_ble_eq_true rfl⟩ (fun _ _ => ?_)
      have hfi := mz_fi0 hg (c := (100 * (x / 8 % 6).toNat + 10 * (x / 8 % 6 + x / 8 / 8 % 3).toNat + (1 + x / 8 / 32 % 3).toNat))
      refine hv_eqst (st' := [.int (zI (sp_fi g (gH g) (sp_bh (gS g) (gW g) (gH g) (100 * (x / 8 % 6).toNat + 10 * (x / 8 % 6 + x / 8 / 8 % 3).toNat + (1 + x / 8 / 32 % 3).toNat))))]) rfl ?_
      refine hv_weq (ws' := [(r9, .inl (dA 0, 12, .inl (fun i => zI ((ox_clip g (100 * (x / 8 % 6).toNat + 10 * (x / 8 % 6 + x / 8 / 8 % 3).toNat + (1 + x / 8 / 32 % 3).toNat)) i))))]) (rfl) ?_
      refine hv_pop C dX9_turn_147 rfl ?_
      exact hv_vret C M dX9_turn_148 rfl () trivial rfl [] (List.Perm.of_eq (by rw [show ox_st g x = (ox_clip g (100 * (x / 8 % 6).toNat + 10 * (x / 8 % 6 + x / 8 / 8 % 3).toNat + (1 + x / 8 / 32 % 3).toNat)) from by unfold ox_st; rw [if_neg (by omega), if_neg (by omega), if_neg (by omega)]; rw [mz_tc_t hcn]]; rfl)) (Nat.le_refl _) (Nat.le_refl _)

theorem mz_zm1 {a : Int} (h : ¬ zI a ≤ zI 9999) : zm a 9999 = 9999 := by
  have h2 : zI 9999 < zI a := by
    rw [Int32.lt_iff_toInt_lt]
    have h1 : ¬ (zI a).toInt ≤ (zI 9999).toInt := fun q => h (Int32.le_iff_toInt_le.mpr q)
    omega
  unfold zm
  rw [if_pos h2]
  decide
theorem mz_zm2 {a : Int} (h : zI a ≤ zI 9999) : zI (zm a 9999) = zI a := by
  have h2 : ¬ zI 9999 < zI a := by
    rw [Int32.lt_iff_toInt_lt]
    have h1 := Int32.le_iff_toInt_le.mp h
    omega
  unfold zm
  rw [if_neg h2, ← zI_of]

set_option maxHeartbeats 4000000 in
set_option maxRecDepth 100000 in
theorem k_X9_simulate (l : Launch) (D : va_G) (dA : Nat → ClassId) (m9 xt nw tr di ke ik wt : Nat) (rf sz ac ld sp ou : Int) (g : Nat → Int) (hg : WF g) (t : Nat → Int) (x9 : Int64) (z : Int) (hz : -2147483648 ≤ z ∧ z < 2147483648) : hv_Ct l yX9_simulate (hw_W yX9_simulate cX9_simulate 7 (some .int)) 6 D dA [.ref m9, .long (x9), .int (zI (z))] ([(m9, .inr (7, [.int (zI (rf)), .ref xt, .int (zI (sz)), .ref nw, .ref tr, .ref di, .int (zI (ac)), .ref ke, .ref ik, .ref wt, .int (zI (ld)), .int (zI (sp)), .int (zI (ou))])), (nw, .inl (dA 0, 12, .inl (fun i => zI (g i)))), (tr, .inl (dA 0, 12, .inl (fun i => zI (t i))))]) 0 0 (S := Nat → Int) (fun _ => mz_w (xc_sim z) (some (.int (zI (10000 * ((sm_g g x9 z.toNat 8 + sm_g g x9 z.toNat 9) - (g 8 + g 9)) + zm ((sm_g g x9 z.toNat 6 + sm_g g x9 z.toNat 7) - (g 6 + g 7)) 9999)))) (some (.int (zI 0)))) (fun _ => True) (fun u => [(m9, .inr (7, [.int (zI (mz_k1 (xc_sim z))), .ref xt, .int (zI (sz)), .ref nw, .ref tr, .ref di, .int (zI (ac)), .ref ke, .ref ik, .ref wt, .int (zI (ld)), .int (zI (sp)), .int (zI (ou))])), (nw, .inl (dA 0, 12, .inl (fun i => zI (g i)))), (tr, .inl (dA 0, 12, .inl (fun i => zI (u i))))]) := by
  have hg0 := hg.1
  have hg1 := hg.e1
  have hgx := hg.x
  have hg5 := hg.2.2.2.2.2
  have hgR := hg.R
  have hgS := hg.S
  have hge0 := hg.e0
  have hge5 := hg.e5
  refine hv_of (cc := cX9_simulate) (maxL := 7) (ret := (some .int)) (own := RX9) rfl (by decide) rfl (Nat.le_of_ble_eq_true rfl) ?_
  intro p e s m args below meth c C M
  refine hv_lveq (lv' := [(0, .ref m9), (1, .long (x9)), (3, .int (zI (z)))]) rfl ?_
  refine hv_aload_n C dX9_simulate_0 0 rfl ?_
  refine hv_iload_n C dX9_simulate_1 2 rfl ?_
  refine hv_i2l C dX9_simulate_2 (v := (zL (z))) (by exact zL_i (by omega)) ?_
  refine hv_lconst C dX9_simulate_3 (v := 1) rfl ?_
  refine hv_ldc2 C dX9_simulate_4 (hw_c tw_o_RX9_192) ?_
  refine hv_eqst (st' := [.long (zL (60)), .long (zL (1)), .long (zL (z)), .ref m9]) (by rfl) ?_
  refine hv_callS (As := [.long (zL (z)), .long (zL (1)), .long (zL (60))]) (rest := [.ref m9]) (wc := []) (wr := [(m9, .inr (7, [.int (zI (rf)), .ref xt, .int (zI (sz)), .ref nw, .ref tr, .ref di, .int (zI (ac)), .ref ke, .ref ik, .ref wt, .int (zI (ld)), .int (zI (sp)), .int (zI (ou))])), (nw, .inl (dA 0, 12, .inl (fun i => zI (g i)))), (tr, .inl (dA 0, 12, .inl (fun i => zI (t i))))]) C (k_X9_in l D dA (z) (by omega) (1) (by omega) (60) (by omega)) (va_cwS 3 C.1.2.2.2.2 (hw_S tw_m_RX9_43 tw_t_X9_in tw_n_RX9 tw_k_X9_in) rfl rfl rfl (by decide +kernel) ⟨Nat.le_of_ble_eq_true rfl, Nat.le_of_ble_eq_true rfl⟩) (hv_pm [] rfl) rfl rfl (Nat.le_of_ble_eq_true rfl) dX9_simulate_7 ⟨Nat.le_of_ble_eq_true rfl, Nat.le_of_ble_eq_true rfl⟩ (fun _ _ => ?_)
  refine hv_eqst (st' := [.int (zI (zB (decide (1 ≤ z ∧ z ≤ 60)))), .ref m9]) rfl ?_
  refine hv_weq (ws' := [(m9, .inr (7, [.int (zI (rf)), .ref xt, .int (zI (sz)), .ref nw, .ref tr, .ref di, .int (zI (ac)), .ref ke, .ref ik, .ref wt, .int (zI (ld)), .int (zI (sp)), .int (zI (ou))])), (nw, .inl (dA 0, 12, .inl (fun i => zI (g i)))), (tr, .inl (dA 0, 12, .inl (fun i => zI (t i))))]) (rfl) ?_
  refine hv_if_eq C dX9_simulate_10 (tgt := 17) (by decide) zB_0 (fun hc10 => ?_) (fun hc10 => ?_)
  · refine hv_iconst C dX9_simulate_17 (v := zI (1)) rfl ?_
    refine hv_callV (As := [.int (zI (1))]) (rest := []) (wc := [(m9, .inr (7, [.int (zI (rf)), .ref xt, .int (zI (sz)), .ref nw, .ref tr, .ref di, .int (zI (ac)), .ref ke, .ref ik, .ref wt, .int (zI (ld)), .int (zI (sp)), .int (zI (ou))]))]) (wr := [(nw, .inl (dA 0, 12, .inl (fun i => zI (g i)))), (tr, .inl (dA 0, 12, .inl (fun i => zI (t i))))]) C (k_X9_refused l D dA m9 xt nw tr di ke ik wt (rf) (sz) (ac) (ld) (sp) (ou) 1 (by omega)) (cwV 1 C.1.2.2.2.2 (hw_V tw_m_RX9_122 tw_i_X9_refused tw_s_X9_refused tw_n_RX9 tw_k_X9_refused) rfl rfl rfl (by decide +kernel) ⟨Nat.le_of_ble_eq_true rfl, Nat.le_of_ble_eq_true rfl⟩) (hv_pm [0] rfl) rfl 0 7 rfl rfl rfl (Nat.le_of_ble_eq_true rfl) dX9_simulate_18 ⟨Nat.le_of_ble_eq_true rfl, Nat.le_of_ble_eq_true rfl⟩ (fun _ _ => ?_)
    have e9 : xc_sim z = some hx_IAE := by unfold xc_sim; (repeat' split) <;> first | rfl | (exfalso; omega)
    have e8 : mz_k1 (xc_sim z) = 1 := by rw [e9]; exact mz_k1s
    refine hv_eqst (st' := [.int (zI (zB (decide ((0 : Int) < 1))))]) rfl ?_
    refine hv_weq (ws' := [(m9, .inr (7, [.int (zI (1)), .ref xt, .int (zI (sz)), .ref nw, .ref tr, .ref di, .int (zI (ac)), .ref ke, .ref ik, .ref wt, .int (zI (ld)), .int (zI (sp)), .int (zI (ou))])), (nw, .inl (dA 0, 12, .inl (fun i => zI (g i)))), (tr, .inl (dA 0, 12, .inl (fun i => zI (t i))))]) (rfl) ?_
    refine hv_if_eq C dX9_simulate_21 (tgt := 26) (by decide) zB_0 (fun hc21 => ?_) (fun hc21 => ?_)
    · exact absurd hc21 (by omega)
    · refine hv_iconst C dX9_simulate_24 (v := zI (0)) rfl ?_
      exact hv_iret C M dX9_simulate_25 rfl rfl t trivial (by rw [e9]; rfl) [] (List.Perm.of_eq (by rw [e8]; rfl)) (Nat.le_refl _) (Nat.le_refl _)
  · refine hv_iconst C dX9_simulate_13 (v := zI (0)) rfl ?_
    refine hv_goto C dX9_simulate_14 (tgt := 18) (by decide) ?_
    refine hv_callV (As := [.int (zI (0))]) (rest := []) (wc := [(m9, .inr (7, [.int (zI (rf)), .ref xt, .int (zI (sz)), .ref nw, .ref tr, .ref di, .int (zI (ac)), .ref ke, .ref ik, .ref wt, .int (zI (ld)), .int (zI (sp)), .int (zI (ou))]))]) (wr := [(nw, .inl (dA 0, 12, .inl (fun i => zI (g i)))), (tr, .inl (dA 0, 12, .inl (fun i => zI (t i))))]) C (k_X9_refused l D dA m9 xt nw tr di ke ik wt (rf) (sz) (ac) (ld) (sp) (ou) 0 (by omega)) (cwV 1 C.1.2.2.2.2 (hw_V tw_m_RX9_122 tw_i_X9_refused tw_s_X9_refused tw_n_RX9 tw_k_X9_refused) rfl rfl rfl (by decide +kernel) ⟨Nat.le_of_ble_eq_true rfl, Nat.le_of_ble_eq_true rfl⟩) (hv_pm [0] rfl) rfl 0 7 rfl rfl rfl (Nat.le_of_ble_eq_true rfl) dX9_simulate_18 ⟨Nat.le_of_ble_eq_true rfl, Nat.le_of_ble_eq_true rfl⟩ (fun _ _ => ?_)
    have e9 : xc_sim z = none := by unfold xc_sim; (repeat' split) <;> first | rfl | (exfalso; omega)
    have e8 : mz_k1 (xc_sim z) = 0 := by rw [e9]; exact mz_k1n
    refine hv_eqst (st' := [.int (zI (zB (decide ((0 : Int) < 0))))]) rfl ?_
    refine hv_weq (ws' := [(m9, .inr (7, [.int (zI (0)), .ref xt, .int (zI (sz)), .ref nw, .ref tr, .ref di, .int (zI (ac)), .ref ke, .ref ik, .ref wt, .int (zI (ld)), .int (zI (sp)), .int (zI (ou))])), (nw, .inl (dA 0, 12, .inl (fun i => zI (g i)))), (tr, .inl (dA 0, 12, .inl (fun i => zI (t i))))]) (rfl) ?_
    refine hv_if_eq C dX9_simulate_21 (tgt := 26) (by decide) zB_0 (fun hc21 => ?_) (fun hc21 => ?_)
    · refine hv_aload_n C dX9_simulate_26 0 rfl ?_
      refine hv_get C dX9_simulate_27 (fun w h => hw_c (tw_u_9 w h)) 0 (ci := 7) rfl rfl 3 (by decide) (hw_c tw_f_RX9_13) rfl ?_
      refine hv_iconst C dX9_simulate_30 (v := zI (0)) rfl ?_
      refine hv_aload_n C dX9_simulate_31 0 rfl ?_
      refine hv_get C dX9_simulate_32 (fun w h => hw_c (tw_u_9 w h)) 0 (ci := 7) rfl rfl 4 (by decide) (hw_c tw_f_RX9_16) rfl ?_
      refine hv_iconst C dX9_simulate_35 (v := zI (0)) rfl ?_
      refine hv_callS (As := [.ref nw, .int (zI (0)), .ref tr, .int (zI (0))]) (rest := []) (wc := [(nw, .inl (dA 0, 12, .inl (fun i => zI (g i)))), (tr, .inl (dA 0, 12, .inl (fun i => zI (t i))))]) (wr := [(m9, .inr (7, [.int (zI (0)), .ref xt, .int (zI (sz)), .ref nw, .ref tr, .ref di, .int (zI (ac)), .ref ke, .ref ik, .ref wt, .int (zI (ld)), .int (zI (sp)), .int (zI (ou))]))]) C (k_X9_copyState l D dA nw tr 12 12 g t 0 0 rfl rfl (by omega) (by omega) (by omega) (by omega)) (va_cwS 4 C.1.2.2.2.2 (hw_S tw_m_RX9_162 tw_t_X9_copyState tw_n_RX9 tw_k_X9_copyState) rfl rfl rfl (by decide +kernel) ⟨Nat.le_of_ble_eq_true rfl, Nat.le_of_ble_eq_true rfl⟩) (hv_pm [1, 1] rfl) rfl rfl (Nat.le_of_ble_eq_true rfl) dX9_simulate_36 ⟨Nat.le_of_ble_eq_true rfl, Nat.le_of_ble_eq_true rfl⟩ (fun _ _ => ?_)
      refine hv_eqst (st' := []) rfl ?_
      refine hv_weq (ws' := [(nw, .inl (dA 0, 12, .inl (fun i => zI (g i)))), (tr, .inl (dA 0, 12, .inl (fun i => zI ((mz_c t g 0 0 12) i)))), (m9, .inr (7, [.int (zI (0)), .ref xt, .int (zI (sz)), .ref nw, .ref tr, .ref di, .int (zI (ac)), .ref ke, .ref ik, .ref wt, .int (zI (ld)), .int (zI (sp)), .int (zI (ou))]))]) (rfl) ?_
      refine hv_srt [2, 0, 0] (ws' := [(m9, .inr (7, [.int (zI (0)), .ref xt, .int (zI (sz)), .ref nw, .ref tr, .ref di, .int (zI (ac)), .ref ke, .ref ik, .ref wt, .int (zI (ld)), .int (zI (sp)), .int (zI (ou))])), (nw, .inl (dA 0, 12, .inl (fun i => zI (g i)))), (tr, .inl (dA 0, 12, .inl (fun i => zI ((mz_c t g 0 0 12) i))))]) rfl ?_
      refine hv_acg 2 (f' := fun i => zI (g i)) rfl (fun i hi => ?_) rfl ?_
      · exact congrArg zI ((by rw [mz_c_eq, if_pos (by omega)]; congr 1; omega))
      refine hv_lload_n C dX9_simulate_39 1 rfl ?_
      refine hv_lstore C dX9_simulate_40 (lw := [(4, .long (x9)), (0, .ref m9), (1, .long (x9)), (3, .int (zI (z)))]) (by decide) rfl ?_
      refine hv_iconst C dX9_simulate_42 (v := zI (0)) rfl ?_
      refine hv_istore C dX9_simulate_43 (lw := [(6, .int (zI (0))), (4, .long (x9)), (0, .ref m9), (1, .long (x9)), (3, .int (zI (z)))]) (by decide) rfl ?_
      refine hv_lsub [0, 1, 2, 4] (lv' := [(6, .int (zI (0))), (4, .long (x9)), (0, .ref m9), (3, .int (zI (z)))]) rfl ?_
      refine hv_loop (σ := Nat) (fun n9 x => x + n9 = z.toNat) (fun x => [(m9, .inr (7, [.int (zI (0)), .ref xt, .int (zI (sz)), .ref nw, .ref tr, .ref di, .int (zI (ac)), .ref ke, .ref ik, .ref wt, .int (zI (ld)), .int (zI (sp)), .int (zI (ou))])), (nw, .inl (dA 0, 12, .inl (fun i => zI (g i)))), (tr, .inl (dA 0, 12, .inl (fun i => zI ((sm_g g x9 x) i))))]) (fun x => [(6, .int (zI ((x : Int)))), (4, .long (sm_x x9 x)), (0, .ref m9), (3, .int (zI (z)))]) (fun x => []) (fun _ => 0) (fun _ => 0) (z.toNat) (0) (Nat.zero_add _) (⟨rfl, rfl, rfl, rfl, rfl⟩) (fun n9 x hI ih => ?_)
      obtain ⟨k5, rfl⟩ : ∃ k5, k5 = x := ⟨x, rfl⟩
      refine hv_iload C dX9_simulate_45 0 rfl ?_
      refine hv_iload_n C dX9_simulate_47 3 rfl ?_
      refine hv_icmp_ge C dX9_simulate_48 (tgt := 82) (by decide) (zI_le (by omega)) (fun hc48 => ?_) (fun hc48 => ?_)
      · obtain rfl : k5 = z.toNat := (by omega)
        refine hv_aload_n C dX9_simulate_82 2 rfl ?_
        refine hv_get C dX9_simulate_83 (fun w h => hw_c (tw_u_9 w h)) 0 (ci := 7) rfl rfl 4 (by decide) (hw_c tw_f_RX9_16) rfl ?_
        refine hv_bipush C dX9_simulate_86 (v := zI (6)) (by decide +kernel) ?_
        refine hv_callS (As := [.ref tr, .int (zI (6))]) (rest := []) (wc := [(tr, .inl (dA 0, 12, .inl (fun i => zI ((sm_g g x9 z.toNat) i))))]) (wr := [(m9, .inr (7, [.int (zI (0)), .ref xt, .int (zI (sz)), .ref nw, .ref tr, .ref di, .int (zI (ac)), .ref ke, .ref ik, .ref wt, .int (zI (ld)), .int (zI (sp)), .int (zI (ou))])), (nw, .inl (dA 0, 12, .inl (fun i => zI (g i))))]) C (k_X9_both l D dA tr (sm_g g x9 z.toNat) 6 rfl (by omega)) (va_cwS 2 C.1.2.2.2.2 (hw_S tw_m_RX9_202 tw_t_X9_both tw_n_RX9 tw_k_X9_both) rfl rfl rfl (by decide +kernel) ⟨Nat.le_of_ble_eq_true rfl, Nat.le_of_ble_eq_true rfl⟩) (hv_pm [2] rfl) rfl rfl (Nat.le_of_ble_eq_true rfl) dX9_simulate_88 ⟨Nat.le_of_ble_eq_true rfl, Nat.le_of_ble_eq_true rfl⟩ (fun _ _ => ?_)
        refine hv_eqst (st' := [.int (zI ((sm_g g x9 z.toNat) 6 + (sm_g g x9 z.toNat) (6 + 1)))]) rfl ?_
        refine hv_weq (ws' := [(tr, .inl (dA 0, 12, .inl (fun i => zI ((sm_g g x9 z.toNat) i)))), (m9, .inr (7, [.int (zI (0)), .ref xt, .int (zI (sz)), .ref nw, .ref tr, .ref di, .int (zI (ac)), .ref ke, .ref ik, .ref wt, .int (zI (ld)), .int (zI (sp)), .int (zI (ou))])), (nw, .inl (dA 0, 12, .inl (fun i => zI (g i))))]) (rfl) ?_
        refine hv_srt [1, 1, 0] (ws' := [(m9, .inr (7, [.int (zI (0)), .ref xt, .int (zI (sz)), .ref nw, .ref tr, .ref di, .int (zI (ac)), .ref ke, .ref ik, .ref wt, .int (zI (ld)), .int (zI (sp)), .int (zI (ou))])), (nw, .inl (dA 0, 12, .inl (fun i => zI (g i)))), (tr, .inl (dA 0, 12, .inl (fun i => zI ((sm_g g x9 z.toNat) i))))]) rfl ?_
        refine hv_aload_n C dX9_simulate_91 2 rfl ?_
        refine hv_get C dX9_simulate_92 (fun w h => hw_c (tw_u_9 w h)) 0 (ci := 7) rfl rfl 3 (by decide) (hw_c tw_f_RX9_13) rfl ?_
        refine hv_bipush C dX9_simulate_95 (v := zI (6)) (by decide +kernel) ?_
        refine hv_callS (As := [.ref nw, .int (zI (6))]) (rest := [.int (zI ((sm_g g x9 z.toNat) 6 + (sm_g g x9 z.toNat) (6 + 1)))]) (wc := [(nw, .inl (dA 0, 12, .inl (fun i => zI (g i))))]) (wr := [(m9, .inr (7, [.int (zI (0)), .ref xt, .int (zI (sz)), .ref nw, .ref tr, .ref di, .int (zI (ac)), .ref ke, .ref ik, .ref wt, .int (zI (ld)), .int (zI (sp)), .int (zI (ou))])), (tr, .inl (dA 0, 12, .inl (fun i => zI ((sm_g g x9 z.toNat) i))))]) C (k_X9_both l D dA nw g 6 rfl (by omega)) (va_cwS 2 C.1.2.2.2.2 (hw_S tw_m_RX9_202 tw_t_X9_both tw_n_RX9 tw_k_X9_both) rfl rfl rfl (by decide +kernel) ⟨Nat.le_of_ble_eq_true rfl, Nat.le_of_ble_eq_true rfl⟩) (hv_pm [1] rfl) rfl rfl (Nat.le_of_ble_eq_true rfl) dX9_simulate_97 ⟨Nat.le_of_ble_eq_true rfl, Nat.le_of_ble_eq_true rfl⟩ (fun _ _ => ?_)
        refine hv_eqst (st' := [.int (zI (g 6 + g (6 + 1))), .int (zI ((sm_g g x9 z.toNat) 6 + (sm_g g x9 z.toNat) (6 + 1)))]) rfl ?_
        refine hv_weq (ws' := [(nw, .inl (dA 0, 12, .inl (fun i => zI (g i)))), (m9, .inr (7, [.int (zI (0)), .ref xt, .int (zI (sz)), .ref nw, .ref tr, .ref di, .int (zI (ac)), .ref ke, .ref ik, .ref wt, .int (zI (ld)), .int (zI (sp)), .int (zI (ou))])), (tr, .inl (dA 0, 12, .inl (fun i => zI ((sm_g g x9 z.toNat) i))))]) (rfl) ?_
        refine hv_srt [1, 0, 0] (ws' := [(m9, .inr (7, [.int (zI (0)), .ref xt, .int (zI (sz)), .ref nw, .ref tr, .ref di, .int (zI (ac)), .ref ke, .ref ik, .ref wt, .int (zI (ld)), .int (zI (sp)), .int (zI (ou))])), (nw, .inl (dA 0, 12, .inl (fun i => zI (g i)))), (tr, .inl (dA 0, 12, .inl (fun i => zI ((sm_g g x9 z.toNat) i))))]) rfl ?_
        refine hv_isub C dX9_simulate_100 (zI_sub _ _) ?_
        refine hv_istore C dX9_simulate_101 (lw := [(6, .int (zI (((sm_g g x9 z.toNat) 6 + (sm_g g x9 z.toNat) (6 + 1)) - (g 6 + g (6 + 1))))), (4, .long (sm_x x9 z.toNat)), (0, .ref m9), (3, .int (zI (z)))]) (by decide) rfl ?_
        refine hv_sipush C dX9_simulate_103 (v := zI (10000)) (by decide +kernel) ?_
        refine hv_aload_n C dX9_simulate_106 2 rfl ?_
        refine hv_get C dX9_simulate_107 (fun w h => hw_c (tw_u_9 w h)) 0 (ci := 7) rfl rfl 4 (by decide) (hw_c tw_f_RX9_16) rfl ?_
        refine hv_bipush C dX9_simulate_110 (v := zI (8)) (by decide +kernel) ?_
        refine hv_callS (As := [.ref tr, .int (zI (8))]) (rest := [.int (zI (10000))]) (wc := [(tr, .inl (dA 0, 12, .inl (fun i => zI ((sm_g g x9 z.toNat) i))))]) (wr := [(m9, .inr (7, [.int (zI (0)), .ref xt, .int (zI (sz)), .ref nw, .ref tr, .ref di, .int (zI (ac)), .ref ke, .ref ik, .ref wt, .int (zI (ld)), .int (zI (sp)), .int (zI (ou))])), (nw, .inl (dA 0, 12, .inl (fun i => zI (g i))))]) C (k_X9_both l D dA tr (sm_g g x9 z.toNat) 8 rfl (by omega)) (va_cwS 2 C.1.2.2.2.2 (hw_S tw_m_RX9_202 tw_t_X9_both tw_n_RX9 tw_k_X9_both) rfl rfl rfl (by decide +kernel) ⟨Nat.le_of_ble_eq_true rfl, Nat.le_of_ble_eq_true rfl⟩) (hv_pm [2] rfl) rfl rfl (Nat.le_of_ble_eq_true rfl) dX9_simulate_112 ⟨Nat.le_of_ble_eq_true rfl, Nat.le_of_ble_eq_true rfl⟩ (fun _ _ => ?_)
        refine hv_eqst (st' := [.int (zI ((sm_g g x9 z.toNat) 8 + (sm_g g x9 z.toNat) (8 + 1))), .int (zI (10000))]) rfl ?_
        refine hv_weq (ws' := [(tr, .inl (dA 0, 12, .inl (fun i => zI ((sm_g g x9 z.toNat) i)))), (m9, .inr (7, [.int (zI (0)), .ref xt, .int (zI (sz)), .ref nw, .ref tr, .ref di, .int (zI (ac)), .ref ke, .ref ik, .ref wt, .int (zI (ld)), .int (zI (sp)), .int (zI (ou))])), (nw, .inl (dA 0, 12, .inl (fun i => zI (g i))))]) (rfl) ?_
        refine hv_srt [1, 1, 0] (ws' := [(m9, .inr (7, [.int (zI (0)), .ref xt, .int (zI (sz)), .ref nw, .ref tr, .ref di, .int (zI (ac)), .ref ke, .ref ik, .ref wt, .int (zI (ld)), .int (zI (sp)), .int (zI (ou))])), (nw, .inl (dA 0, 12, .inl (fun i => zI (g i)))), (tr, .inl (dA 0, 12, .inl (fun i => zI ((sm_g g x9 z.toNat) i))))]) rfl ?_
        refine hv_aload_n C dX9_simulate_115 2 rfl ?_
        refine hv_get C dX9_simulate_116 (fun w h => hw_c (tw_u_9 w h)) 0 (ci := 7) rfl rfl 3 (by decide) (hw_c tw_f_RX9_13) rfl ?_
        refine hv_bipush C dX9_simulate_119 (v := zI (8)) (by decide +kernel) ?_
        refine hv_callS (As := [.ref nw, .int (zI (8))]) (rest := [.int (zI ((sm_g g x9 z.toNat) 8 + (sm_g g x9 z.toNat) (8 + 1))), .int (zI (10000))]) (wc := [(nw, .inl (dA 0, 12, .inl (fun i => zI (g i))))]) (wr := [(m9, .inr (7, [.int (zI (0)), .ref xt, .int (zI (sz)), .ref nw, .ref tr, .ref di, .int (zI (ac)), .ref ke, .ref ik, .ref wt, .int (zI (ld)), .int (zI (sp)), .int (zI (ou))])), (tr, .inl (dA 0, 12, .inl (fun i => zI ((sm_g g x9 z.toNat) i))))]) C (k_X9_both l D dA nw g 8 rfl (by omega)) (va_cwS 2 C.1.2.2.2.2 (hw_S tw_m_RX9_202 tw_t_X9_both tw_n_RX9 tw_k_X9_both) rfl rfl rfl (by decide +kernel) ⟨Nat.le_of_ble_eq_true rfl, Nat.le_of_ble_eq_true rfl⟩) (hv_pm [1] rfl) rfl rfl (Nat.le_of_ble_eq_true rfl) dX9_simulate_121 ⟨Nat.le_of_ble_eq_true rfl, Nat.le_of_ble_eq_true rfl⟩ (fun _ _ => ?_)
        refine hv_eqst (st' := [.int (zI (g 8 + g (8 + 1))), .int (zI ((sm_g g x9 z.toNat) 8 + (sm_g g x9 z.toNat) (8 + 1))), .int (zI (10000))]) rfl ?_
        refine hv_weq (ws' := [(nw, .inl (dA 0, 12, .inl (fun i => zI (g i)))), (m9, .inr (7, [.int (zI (0)), .ref xt, .int (zI (sz)), .ref nw, .ref tr, .ref di, .int (zI (ac)), .ref ke, .ref ik, .ref wt, .int (zI (ld)), .int (zI (sp)), .int (zI (ou))])), (tr, .inl (dA 0, 12, .inl (fun i => zI ((sm_g g x9 z.toNat) i))))]) (rfl) ?_
        refine hv_srt [1, 0, 0] (ws' := [(m9, .inr (7, [.int (zI (0)), .ref xt, .int (zI (sz)), .ref nw, .ref tr, .ref di, .int (zI (ac)), .ref ke, .ref ik, .ref wt, .int (zI (ld)), .int (zI (sp)), .int (zI (ou))])), (nw, .inl (dA 0, 12, .inl (fun i => zI (g i)))), (tr, .inl (dA 0, 12, .inl (fun i => zI ((sm_g g x9 z.toNat) i))))]) rfl ?_
        refine hv_isub C dX9_simulate_124 (zI_sub _ _) ?_
        refine hv_imul C dX9_simulate_125 (zI_mul _ _) ?_
        refine hv_iload C dX9_simulate_126 0 rfl ?_
        refine hv_sipush C dX9_simulate_128 (v := zI (9999)) (by decide +kernel) ?_
        refine hv_icmp_le C dX9_simulate_131 (tgt := 140) (by decide) (P := zI ((sm_g g x9 z.toNat 6 + sm_g g x9 z.toNat 7) - (g 6 + g 7)) ≤ zI 9999) Iff.rfl (fun hc131 => ?_) (fun hc131 => ?_)
        · refine hv_iload C dX9_simulate_140 0 rfl ?_
          refine hv_iadd C dX9_simulate_142 (zI_add _ _) ?_
          exact hv_iret C M dX9_simulate_143 rfl rfl (sm_g g x9 z.toNat) trivial (by rw [e9]; show some (Value.int (zI (_ + _))) = _; rw [← zI_add, mz_zm2 (Decidable.not_not.mp (fun q => q hc131)), zI_add]) [] (List.Perm.of_eq (by rw [e8]; rfl)) (Nat.le_refl _) (Nat.le_refl _)
        · refine hv_sipush C dX9_simulate_134 (v := zI (9999)) (by decide +kernel) ?_
          refine hv_goto C dX9_simulate_137 (tgt := 142) (by decide) ?_
          refine hv_iadd C dX9_simulate_142 (zI_add _ _) ?_
          exact hv_iret C M dX9_simulate_143 rfl rfl (sm_g g x9 z.toNat) trivial (by rw [e9]; exact hv_rv (by rw [mz_zm1 hc131])) [] (List.Perm.of_eq (by rw [e8]; rfl)) (Nat.le_refl _) (Nat.le_refl _)
      · refine hv_lload C dX9_simulate_51 1 rfl ?_
        refine hv_ldc2 C dX9_simulate_53 (hw_c tw_o_RX9_194) ?_
        refine hv_lmul C dX9_simulate_56 (z := (sm_x x9 k5 * 6364136223846793005)) (by rfl) ?_
        refine hv_ldc2 C dX9_simulate_57 (hw_c tw_o_RX9_196) ?_
        refine hv_ladd C dX9_simulate_60 (z := (sm_x x9 (k5 + 1))) (by rfl) ?_
        refine hv_lstore C dX9_simulate_61 (lw := [(4, .long (sm_x x9 (k5 + 1))), (6, .int (zI ((k5 : Int)))), (0, .ref m9), (3, .int (zI (z)))]) (by decide) rfl ?_
        refine hv_aload_n C dX9_simulate_63 2 rfl ?_
        refine hv_get C dX9_simulate_64 (fun w h => hw_c (tw_u_9 w h)) 0 (ci := 7) rfl rfl 4 (by decide) (hw_c tw_f_RX9_16) rfl ?_
        refine hv_lload C dX9_simulate_67 0 rfl ?_
        refine hv_bipush C dX9_simulate_69 (v := zI (33)) (by decide +kernel) ?_
        refine hv_lushr C dX9_simulate_71 (v := (sm_u (sm_x x9 (k5 + 1)))) (by unfold sm_u; rw [show ((zI (33)).toInt64.toUInt64 &&& Int64.toUInt64 63) = 33 from by decide]) ?_
        refine hv_l2i C dX9_simulate_72 (v := (zI (sm_r (sm_x x9 (k5 + 1))))) (by exact sm_u_i _) ?_
        refine hv_callS (As := [.ref tr, .int (zI (sm_r (sm_x x9 (k5 + 1))))]) (rest := []) (wc := [(tr, .inl (dA 0, 12, .inl (fun i => zI ((sm_g g x9 k5) i))))]) (wr := [(m9, .inr (7, [.int (zI (0)), .ref xt, .int (zI (sz)), .ref nw, .ref tr, .ref di, .int (zI (ac)), .ref ke, .ref ik, .ref wt, .int (zI (ld)), .int (zI (sp)), .int (zI (ou))])), (nw, .inl (dA 0, 12, .inl (fun i => zI (g i))))]) C (k_X9_turn l D dA tr (sm_g g x9 k5) (WF_sm hg x9 k5) (sm_r (sm_x x9 (k5 + 1))) (sm_r_ran _)) (va_cwS 2 C.1.2.2.2.2 (hw_S tw_m_RX9_198 tw_t_X9_turn tw_n_RX9 tw_k_X9_turn) rfl rfl rfl (by decide +kernel) ⟨Nat.le_of_ble_eq_true rfl, Nat.le_of_ble_eq_true rfl⟩) (hv_pm [2] rfl) rfl rfl (Nat.le_of_ble_eq_true rfl) dX9_simulate_73 ⟨Nat.le_of_ble_eq_true rfl, Nat.le_of_ble_eq_true rfl⟩ (fun _ _ => ?_)
        refine hv_eqst (st' := []) rfl ?_
        refine hv_weq (ws' := [(tr, .inl (dA 0, 12, .inl (fun i => zI ((sm_g g x9 (k5 + 1)) i)))), (m9, .inr (7, [.int (zI (0)), .ref xt, .int (zI (sz)), .ref nw, .ref tr, .ref di, .int (zI (ac)), .ref ke, .ref ik, .ref wt, .int (zI (ld)), .int (zI (sp)), .int (zI (ou))])), (nw, .inl (dA 0, 12, .inl (fun i => zI (g i))))]) (rfl) ?_
        refine hv_srt [1, 1, 0] (ws' := [(m9, .inr (7, [.int (zI (0)), .ref xt, .int (zI (sz)), .ref nw, .ref tr, .ref di, .int (zI (ac)), .ref ke, .ref ik, .ref wt, .int (zI (ld)), .int (zI (sp)), .int (zI (ou))])), (nw, .inl (dA 0, 12, .inl (fun i => zI (g i)))), (tr, .inl (dA 0, 12, .inl (fun i => zI ((sm_g g x9 (k5 + 1)) i))))]) rfl ?_
        refine hv_iinc C dX9_simulate_76 1 rfl (v := zI (((k5 + 1 : Nat) : Int))) ((zI_add _ _).trans (zI_c (by omega))) (by decide) (lw := [(6, .int (zI (((k5 + 1 : Nat) : Int)))), (4, .long (sm_x x9 (k5 + 1))), (0, .ref m9), (3, .int (zI (z)))]) rfl ?_
        refine hv_goto C dX9_simulate_79 (tgt := 45) (by decide) ?_
        refine hv_lsub [0, 1, 2, 3] (lv' := [(6, .int (zI (((k5 + 1 : Nat) : Int)))), (4, .long (sm_x x9 (k5 + 1))), (0, .ref m9), (3, .int (zI (z)))]) rfl ?_
        obtain ⟨k9, rfl⟩ : ∃ k, n9 = k + 1 := ⟨n9 - 1, by omega⟩
        exact ih k9 (k5 + 1) (by omega) (by omega)
    · exact absurd hc21 (by omega)

def mz_all (k : Nat) : Int64 := zL ((10000 ^ k : Nat) : Int)
theorem mz_pw : ∀ k : Nat, k < 4 → 1 ≤ (10000 ^ k : Nat) ∧ (10000 ^ k : Nat) ≤ 1000000000000 := sp_all (by decide +kernel)
theorem mz_all_i {k : Nat} (hk : k < 4) : (mz_all k).toInt = ((10000 ^ k : Nat) : Int) := by
  have := mz_pw k hk
  exact zL_toInt (by omega)
theorem mz_all_s : ∀ k : Nat, k < 3 → mz_all k * 10000 = mz_all (k + 1) := sp_all (by decide +kernel)
theorem mz_all_d : ∀ k : Nat, k < 3 → mz_all (k + 1) / 10000 = mz_all k := sp_all (by decide +kernel)
theorem mz_all_1 : ∀ k : Nat, k < 4 → mz_all k - 1 = zL (((10000 ^ k : Nat) : Int) - 1) := sp_all (by decide +kernel)
theorem mz_wgx {x : Int64} (h : 0 ≤ x.toInt) : ∀ k, (ox_wg x k).toInt = x.toInt / ((10000 ^ k : Nat) : Int)
  | 0 => by show x.toInt = _; rw [show ((10000 ^ 0 : Nat) : Int) = 1 from rfl, Int.ediv_one]
  | k + 1 => by
    rw [ox_wg, sm_d (ox_wg_0 h k), mz_wgx h k, Int.ediv_ediv_of_nonneg (Int.natCast_nonneg _), show ((10000 ^ k : Nat) : Int) * 10000 = ((10000 ^ (k + 1) : Nat) : Int) by rw [Nat.pow_succ]; omega]
theorem mz_div {x : Int64} (h : 0 ≤ x.toInt) {k : Nat} (hk : k < 4) : x / mz_all k = ox_wg x k := by
  have h2 := x.toInt_lt
  have h3 := mz_pw k hk
  apply Int64.toInt_inj.mp
  rw [mz_wgx h, Int64.toInt_div, mz_all_i hk, Int.tdiv_eq_ediv_of_nonneg h]
  have h4 : 0 ≤ x.toInt / ((10000 ^ k : Nat) : Int) := Int.ediv_nonneg h (by omega)
  have h5 : x.toInt / ((10000 ^ k : Nat) : Int) ≤ x.toInt := Int.ediv_le_self _ h
  exact Int.bmod_eq_of_le (by omega) (by omega)
theorem mz_run {z : Int} {x : Int64} (hz : 1 ≤ z ∧ z ≤ 3) : xc_run z x = if 0 ≤ x.toInt ∧ x.toInt ≤ ((10000 ^ z.toNat : Nat) : Int) - 1 then none else some hx_IAE := by
  have h3 := mz_pw z.toNat (by omega)
  unfold xc_run
  rw [if_pos hz]
  by_cases q : lg_cmp x 0 < 0
  · rw [if_pos q, if_neg]
    intro y
    rw [zL_of x, show (0 : Int64) = zL 0 from rfl, zL_lt ⟨by have := x.le_toInt; have := x.toInt_lt; omega, by omega⟩] at q
    omega
  · have h0 := sm_cmp q
    rw [if_neg q]
    have e : lg_cmp (ox_wg x z.toNat) 0 = 0 ↔ x.toInt ≤ ((10000 ^ z.toNat : Nat) : Int) - 1 := by
      have e2 : lg_cmp (ox_wg x z.toNat) 0 = 0 ↔ (ox_wg x z.toNat).toInt = 0 := by
        have h4 := ox_wg_0 h0 z.toNat
        generalize ox_wg x z.toNat = y at h4
        unfold lg_cmp
        by_cases p : y = 0
        · rw [if_neg (by rw [p]; decide), if_pos p, p]
          decide
        · have p2 : y > 0 := by
            have p3 : ¬ y.toInt = 0 := fun r => p (Int64.toInt_inj.mp (by rw [r]; decide))
            rw [show (y > 0) = (0 < y) from rfl, Int64.lt_iff_toInt_lt, show (0 : Int64).toInt = 0 from by decide]
            omega
          rw [if_pos p2]
          constructor
          · intro r; exact absurd r (by decide)
          · intro r; exact absurd (Int64.toInt_inj.mp (by rw [r]; decide)) p
      rw [e2, mz_wgx h0]
      constructor
      · intro r
        rcases Int.lt_or_le x.toInt ((10000 ^ z.toNat : Nat) : Int) with p | p
        · omega
        · have := Int.ediv_le_ediv (c := ((10000 ^ z.toNat : Nat) : Int)) (by omega) p
          rw [Int.ediv_self (by omega)] at this
          omega
      · intro r
        exact Int.ediv_eq_zero_of_lt h0 (by omega)
    by_cases p : lg_cmp (ox_wg x z.toNat) 0 = 0
    · rw [if_neg (fun r => r p), if_pos ⟨h0, e.mp p⟩]
    · rw [if_pos p, if_neg (fun r => p (e.mpr r.2))]
theorem mz_run_b {z : Int} {x : Int64} (hz : ¬ (1 ≤ z ∧ z ≤ 3)) : xc_run z x = some hx_IAE := if_neg hz
theorem mz_xr (x : Int64) : -9223372036854775808 ≤ x.toInt ∧ x.toInt < 9223372036854775808 := by
  have h1 := x.le_toInt
  have h2 := x.toInt_lt
  omega
theorem mz_1L : (1 : Int64) = mz_all 0 := by decide
theorem mz_Lx {a : Int} {b : Int64} : (1 : Int64) = zL 1 := rfl

set_option maxHeartbeats 4000000 in
set_option maxRecDepth 100000 in
theorem k_X9_runScript (l : Launch) (D : va_G) (dA : Nat → ClassId) (m9 xt nw tr di ke ik wt : Nat) (rf sz ac ld sp ou : Int) (g : Nat → Int) (hg : WF g) (t : Nat → Int) (wv : Nat → Int) (hl : mz_LW ld wv) (z : Int) (hz : -2147483648 ≤ z ∧ z < 2147483648) (x9 : Int64) : hv_Ct l yX9_runScript (hw_W yX9_runScript cX9_runScript 8 (some .int)) 11 D dA [.ref m9, .int (zI (z)), .long (x9)] ([(m9, .inr (7, [.int (zI (rf)), .ref xt, .int (zI (sz)), .ref nw, .ref tr, .ref di, .int (zI (ac)), .ref ke, .ref ik, .ref wt, .int (zI (ld)), .int (zI (sp)), .int (zI (ou))])), (nw, .inl (dA 0, 12, .inl (fun i => zI (g i)))), (tr, .inl (dA 0, 12, .inl (fun i => zI (t i)))), (wt, .inl (dA 0, 4096, .inl (fun i => zI (wv i))))]) 0 0 (S := (Nat → Int) × Int × (Nat → Int)) (fun _ => mz_w (xc_run z x9) (some (.int (zI (ox_run x9 z.toNat z.toNat 0 g)))) (some (.int (zI 0)))) (fun u => mz_LW u.2.1 u.2.2) (fun u => [(m9, .inr (7, [.int (zI (mz_k1 (xc_run z x9))), .ref xt, .int (zI (sz)), .ref nw, .ref tr, .ref di, .int (zI (ac)), .ref ke, .ref ik, .ref wt, .int (zI (u.2.1)), .int (zI (sp)), .int (zI (ou))])), (nw, .inl (dA 0, 12, .inl (fun i => zI (g i)))), (tr, .inl (dA 0, 12, .inl (fun i => zI (u.1 i)))), (wt, .inl (dA 0, 4096, .inl (fun i => zI (u.2.2 i))))]) := by
  have hlz := hl
  refine hv_of (cc := cX9_runScript) (maxL := 8) (ret := (some .int)) (own := RX9) rfl (by decide) rfl (Nat.le_of_ble_eq_true rfl) ?_
  intro p e s m args below meth c C M
  refine hv_lveq (lv' := [(0, .ref m9), (1, .int (zI (z))), (2, .long (x9))]) rfl ?_
  refine hv_lconst C dX9_runScript_0 (v := 1) rfl ?_
  refine hv_lstore C dX9_runScript_1 (lw := [(4, .long (1)), (0, .ref m9), (1, .int (zI (z))), (2, .long (x9))]) (by decide) rfl ?_
  refine hv_iconst C dX9_runScript_3 (v := zI (0)) rfl ?_
  refine hv_istore C dX9_runScript_4 (lw := [(6, .int (zI (0))), (4, .long (1)), (0, .ref m9), (1, .int (zI (z))), (2, .long (x9))]) (by decide) rfl ?_
  refine hv_loop (σ := Nat) (fun n9 x => x + n9 = (min z.toNat 3)) (fun x => [(m9, .inr (7, [.int (zI (rf)), .ref xt, .int (zI (sz)), .ref nw, .ref tr, .ref di, .int (zI (ac)), .ref ke, .ref ik, .ref wt, .int (zI (ld)), .int (zI (sp)), .int (zI (ou))])), (nw, .inl (dA 0, 12, .inl (fun i => zI (g i)))), (tr, .inl (dA 0, 12, .inl (fun i => zI (t i)))), (wt, .inl (dA 0, 4096, .inl (fun i => zI (wv i))))]) (fun x => [(6, .int (zI ((x : Int)))), (4, .long (mz_all x)), (0, .ref m9), (1, .int (zI (z))), (2, .long (x9))]) (fun x => []) (fun _ => 0) (fun _ => 0) ((min z.toNat 3)) (0) (Nat.zero_add _) (⟨rfl, by rw [mz_1L]; rfl, rfl, rfl, rfl⟩) (fun n9 x hI ih => ?_)
  obtain ⟨i, rfl⟩ : ∃ i, i = x := ⟨x, rfl⟩
  refine hv_iload C dX9_runScript_6 0 rfl ?_
  refine hv_iload_n C dX9_runScript_8 3 rfl ?_
  refine hv_icmp_ge C dX9_runScript_9 (tgt := 32) (by decide) (zI_le (by omega)) (fun hc9 => ?_) (fun hc9 => ?_)
  · refine hv_aload_n C dX9_runScript_32 2 rfl ?_
    refine hv_iload_n C dX9_runScript_33 3 rfl ?_
    refine hv_i2l C dX9_runScript_34 (v := (zL (z))) (by exact zL_i (by omega)) ?_
    refine hv_lconst C dX9_runScript_35 (v := 1) rfl ?_
    refine hv_ldc2 C dX9_runScript_36 (hw_c tw_o_RX9_51) ?_
    refine hv_eqst (st' := [.long (zL 3), .long (zL 1), .long (zL (z)), .ref m9]) (by rfl) ?_
    refine hv_callS (As := [.long (zL (z)), .long (zL 1), .long (zL 3)]) (rest := [.ref m9]) (wc := []) (wr := [(m9, .inr (7, [.int (zI (rf)), .ref xt, .int (zI (sz)), .ref nw, .ref tr, .ref di, .int (zI (ac)), .ref ke, .ref ik, .ref wt, .int (zI (ld)), .int (zI (sp)), .int (zI (ou))])), (nw, .inl (dA 0, 12, .inl (fun i => zI (g i)))), (tr, .inl (dA 0, 12, .inl (fun i => zI (t i)))), (wt, .inl (dA 0, 4096, .inl (fun i => zI (wv i))))]) C (k_X9_in l D dA z (by omega) 1 (by omega) 3 (by omega)) (va_cwS 3 C.1.2.2.2.2 (hw_S tw_m_RX9_43 tw_t_X9_in tw_n_RX9 tw_k_X9_in) rfl rfl rfl (by decide +kernel) ⟨Nat.le_of_ble_eq_true rfl, Nat.le_of_ble_eq_true rfl⟩) (hv_pm [] rfl) rfl rfl (Nat.le_of_ble_eq_true rfl) dX9_runScript_39 ⟨Nat.le_of_ble_eq_true rfl, Nat.le_of_ble_eq_true rfl⟩ (fun _ _ => ?_)
    refine hv_eqst (st' := [.int (zI (zB (decide (1 ≤ z ∧ z ≤ 3)))), .ref m9]) rfl ?_
    refine hv_weq (ws' := [(m9, .inr (7, [.int (zI (rf)), .ref xt, .int (zI (sz)), .ref nw, .ref tr, .ref di, .int (zI (ac)), .ref ke, .ref ik, .ref wt, .int (zI (ld)), .int (zI (sp)), .int (zI (ou))])), (nw, .inl (dA 0, 12, .inl (fun i => zI (g i)))), (tr, .inl (dA 0, 12, .inl (fun i => zI (t i)))), (wt, .inl (dA 0, 4096, .inl (fun i => zI (wv i))))]) (rfl) ?_
    refine hv_if_eq C dX9_runScript_42 (tgt := 61) (by decide) zB_0 (fun hc42 => ?_) (fun hc42 => ?_)
    · refine hv_iconst C dX9_runScript_61 (v := zI (1)) rfl ?_
      refine hv_callV (As := [.int (zI (1))]) (rest := []) (wc := [(m9, .inr (7, [.int (zI (rf)), .ref xt, .int (zI (sz)), .ref nw, .ref tr, .ref di, .int (zI (ac)), .ref ke, .ref ik, .ref wt, .int (zI (ld)), .int (zI (sp)), .int (zI (ou))]))]) (wr := [(nw, .inl (dA 0, 12, .inl (fun i => zI (g i)))), (tr, .inl (dA 0, 12, .inl (fun i => zI (t i)))), (wt, .inl (dA 0, 4096, .inl (fun i => zI (wv i))))]) C (k_X9_refused l D dA m9 xt nw tr di ke ik wt (rf) (sz) (ac) (ld) (sp) (ou) 1 (by omega)) (cwV 1 C.1.2.2.2.2 (hw_V tw_m_RX9_122 tw_i_X9_refused tw_s_X9_refused tw_n_RX9 tw_k_X9_refused) rfl rfl rfl (by decide +kernel) ⟨Nat.le_of_ble_eq_true rfl, Nat.le_of_ble_eq_true rfl⟩) (hv_pm [0] rfl) rfl 0 7 rfl rfl rfl (Nat.le_of_ble_eq_true rfl) dX9_runScript_62 ⟨Nat.le_of_ble_eq_true rfl, Nat.le_of_ble_eq_true rfl⟩ (fun _ _ => ?_)
      have e9 : xc_run z x9 = some hx_IAE := by by_cases qz : 1 ≤ z ∧ z ≤ 3; (obtain rfl : i = z.toNat := (by omega); rw [mz_run qz, if_neg (by omega)]); exact mz_run_b qz
      have e8 : mz_k1 (xc_run z x9) = 1 := by rw [e9]; exact mz_k1s
      refine hv_eqst (st' := [.int (zI (zB (decide ((0 : Int) < 1))))]) rfl ?_
      refine hv_weq (ws' := [(m9, .inr (7, [.int (zI (1)), .ref xt, .int (zI (sz)), .ref nw, .ref tr, .ref di, .int (zI (ac)), .ref ke, .ref ik, .ref wt, .int (zI (ld)), .int (zI (sp)), .int (zI (ou))])), (nw, .inl (dA 0, 12, .inl (fun i => zI (g i)))), (tr, .inl (dA 0, 12, .inl (fun i => zI (t i)))), (wt, .inl (dA 0, 4096, .inl (fun i => zI (wv i))))]) (rfl) ?_
      refine hv_if_eq C dX9_runScript_65 (tgt := 70) (by decide) zB_0 (fun hc65 => ?_) (fun hc65 => ?_)
      · exact absurd hc65 (by omega)
      · refine hv_iconst C dX9_runScript_68 (v := zI (0)) rfl ?_
        exact hv_iret C M dX9_runScript_69 rfl rfl (t, ld, wv) hl (by rw [e9]; rfl) [] (List.Perm.of_eq (by rw [e8]; rfl)) (Nat.le_refl _) (Nat.le_refl _)
    · refine hv_lload_n C dX9_runScript_45 4 rfl ?_
      refine hv_lconst C dX9_runScript_46 (v := 0) rfl ?_
      refine hv_lload C dX9_runScript_47 1 rfl ?_
      refine hv_lconst C dX9_runScript_49 (v := 1) rfl ?_
      refine hv_lsubi C dX9_runScript_50 (z := (mz_all i - 1)) (by rfl) ?_
      refine hv_eqst (st' := [.long (zL (((10000 ^ i : Nat) : Int) - 1)), .long (zL 0), .long (zL x9.toInt), .ref m9]) (by rw [← mz_all_1 i (by omega), ← zL_of]; rfl) ?_
      refine hv_callS (As := [.long (zL x9.toInt), .long (zL 0), .long (zL (((10000 ^ i : Nat) : Int) - 1))]) (rest := [.ref m9]) (wc := []) (wr := [(m9, .inr (7, [.int (zI (rf)), .ref xt, .int (zI (sz)), .ref nw, .ref tr, .ref di, .int (zI (ac)), .ref ke, .ref ik, .ref wt, .int (zI (ld)), .int (zI (sp)), .int (zI (ou))])), (nw, .inl (dA 0, 12, .inl (fun i => zI (g i)))), (tr, .inl (dA 0, 12, .inl (fun i => zI (t i)))), (wt, .inl (dA 0, 4096, .inl (fun i => zI (wv i))))]) C (k_X9_in l D dA x9.toInt (mz_xr x9) 0 (by omega) (((10000 ^ i : Nat) : Int) - 1) (by have := mz_pw i (by omega); omega)) (va_cwS 3 C.1.2.2.2.2 (hw_S tw_m_RX9_43 tw_t_X9_in tw_n_RX9 tw_k_X9_in) rfl rfl rfl (by decide +kernel) ⟨Nat.le_of_ble_eq_true rfl, Nat.le_of_ble_eq_true rfl⟩) (hv_pm [] rfl) rfl rfl (Nat.le_of_ble_eq_true rfl) dX9_runScript_51 ⟨Nat.le_of_ble_eq_true rfl, Nat.le_of_ble_eq_true rfl⟩ (fun _ _ => ?_)
      refine hv_eqst (st' := [.int (zI (zB (decide (0 ≤ x9.toInt ∧ x9.toInt ≤ ((10000 ^ i : Nat) : Int) - 1)))), .ref m9]) rfl ?_
      refine hv_weq (ws' := [(m9, .inr (7, [.int (zI (rf)), .ref xt, .int (zI (sz)), .ref nw, .ref tr, .ref di, .int (zI (ac)), .ref ke, .ref ik, .ref wt, .int (zI (ld)), .int (zI (sp)), .int (zI (ou))])), (nw, .inl (dA 0, 12, .inl (fun i => zI (g i)))), (tr, .inl (dA 0, 12, .inl (fun i => zI (t i)))), (wt, .inl (dA 0, 4096, .inl (fun i => zI (wv i))))]) (rfl) ?_
      refine hv_if_eq C dX9_runScript_54 (tgt := 61) (by decide) zB_0 (fun hc54 => ?_) (fun hc54 => ?_)
      · refine hv_iconst C dX9_runScript_61 (v := zI (1)) rfl ?_
        refine hv_callV (As := [.int (zI (1))]) (rest := []) (wc := [(m9, .inr (7, [.int (zI (rf)), .ref xt, .int (zI (sz)), .ref nw, .ref tr, .ref di, .int (zI (ac)), .ref ke, .ref ik, .ref wt, .int (zI (ld)), .int (zI (sp)), .int (zI (ou))]))]) (wr := [(nw, .inl (dA 0, 12, .inl (fun i => zI (g i)))), (tr, .inl (dA 0, 12, .inl (fun i => zI (t i)))), (wt, .inl (dA 0, 4096, .inl (fun i => zI (wv i))))]) C (k_X9_refused l D dA m9 xt nw tr di ke ik wt (rf) (sz) (ac) (ld) (sp) (ou) 1 (by omega)) (cwV 1 C.1.2.2.2.2 (hw_V tw_m_RX9_122 tw_i_X9_refused tw_s_X9_refused tw_n_RX9 tw_k_X9_refused) rfl rfl rfl (by decide +kernel) ⟨Nat.le_of_ble_eq_true rfl, Nat.le_of_ble_eq_true rfl⟩) (hv_pm [0] rfl) rfl 0 7 rfl rfl rfl (Nat.le_of_ble_eq_true rfl) dX9_runScript_62 ⟨Nat.le_of_ble_eq_true rfl, Nat.le_of_ble_eq_true rfl⟩ (fun _ _ => ?_)
        have e9 : xc_run z x9 = some hx_IAE := by by_cases qz : 1 ≤ z ∧ z ≤ 3; (obtain rfl : i = z.toNat := (by omega); rw [mz_run qz, if_neg (by omega)]); exact mz_run_b qz
        have e8 : mz_k1 (xc_run z x9) = 1 := by rw [e9]; exact mz_k1s
        refine hv_eqst (st' := [.int (zI (zB (decide ((0 : Int) < 1))))]) rfl ?_
        refine hv_weq (ws' := [(m9, .inr (7, [.int (zI (1)), .ref xt, .int (zI (sz)), .ref nw, .ref tr, .ref di, .int (zI (ac)), .ref ke, .ref ik, .ref wt, .int (zI (ld)), .int (zI (sp)), .int (zI (ou))])), (nw, .inl (dA 0, 12, .inl (fun i => zI (g i)))), (tr, .inl (dA 0, 12, .inl (fun i => zI (t i)))), (wt, .inl (dA 0, 4096, .inl (fun i => zI (wv i))))]) (rfl) ?_
        refine hv_if_eq C dX9_runScript_65 (tgt := 70) (by decide) zB_0 (fun hc65 => ?_) (fun hc65 => ?_)
        · exact absurd hc65 (by omega)
        · refine hv_iconst C dX9_runScript_68 (v := zI (0)) rfl ?_
          exact hv_iret C M dX9_runScript_69 rfl rfl (t, ld, wv) hl (by rw [e9]; rfl) [] (List.Perm.of_eq (by rw [e8]; rfl)) (Nat.le_refl _) (Nat.le_refl _)
      · refine hv_iconst C dX9_runScript_57 (v := zI (0)) rfl ?_
        refine hv_goto C dX9_runScript_58 (tgt := 62) (by decide) ?_
        refine hv_callV (As := [.int (zI (0))]) (rest := []) (wc := [(m9, .inr (7, [.int (zI (rf)), .ref xt, .int (zI (sz)), .ref nw, .ref tr, .ref di, .int (zI (ac)), .ref ke, .ref ik, .ref wt, .int (zI (ld)), .int (zI (sp)), .int (zI (ou))]))]) (wr := [(nw, .inl (dA 0, 12, .inl (fun i => zI (g i)))), (tr, .inl (dA 0, 12, .inl (fun i => zI (t i)))), (wt, .inl (dA 0, 4096, .inl (fun i => zI (wv i))))]) C (k_X9_refused l D dA m9 xt nw tr di ke ik wt (rf) (sz) (ac) (ld) (sp) (ou) 0 (by omega)) (cwV 1 C.1.2.2.2.2 (hw_V tw_m_RX9_122 tw_i_X9_refused tw_s_X9_refused tw_n_RX9 tw_k_X9_refused) rfl rfl rfl (by decide +kernel) ⟨Nat.le_of_ble_eq_true rfl, Nat.le_of_ble_eq_true rfl⟩) (hv_pm [0] rfl) rfl 0 7 rfl rfl rfl (Nat.le_of_ble_eq_true rfl) dX9_runScript_62 ⟨Nat.le_of_ble_eq_true rfl, Nat.le_of_ble_eq_true rfl⟩ (fun _ _ => ?_)
        have e9 : xc_run z x9 = none := by obtain rfl : i = z.toNat := (by omega); rw [mz_run (by omega), if_pos (by omega)]
        have e8 : mz_k1 (xc_run z x9) = 0 := by rw [e9]; exact mz_k1n
        refine hv_eqst (st' := [.int (zI (zB (decide ((0 : Int) < 0))))]) rfl ?_
        refine hv_weq (ws' := [(m9, .inr (7, [.int (zI (0)), .ref xt, .int (zI (sz)), .ref nw, .ref tr, .ref di, .int (zI (ac)), .ref ke, .ref ik, .ref wt, .int (zI (ld)), .int (zI (sp)), .int (zI (ou))])), (nw, .inl (dA 0, 12, .inl (fun i => zI (g i)))), (tr, .inl (dA 0, 12, .inl (fun i => zI (t i)))), (wt, .inl (dA 0, 4096, .inl (fun i => zI (wv i))))]) (rfl) ?_
        refine hv_if_eq C dX9_runScript_65 (tgt := 70) (by decide) zB_0 (fun hc65 => ?_) (fun hc65 => ?_)
        · have hx0 : 0 ≤ x9.toInt := by omega
          have hz3 : 1 ≤ z ∧ z ≤ 3 := by omega
          refine hv_aload_n C dX9_runScript_70 2 rfl ?_
          refine hv_get C dX9_runScript_71 (fun w h => hw_c (tw_u_9 w h)) 0 (ci := 7) rfl rfl 3 (by decide) (hw_c tw_f_RX9_13) rfl ?_
          refine hv_iconst C dX9_runScript_74 (v := zI (0)) rfl ?_
          refine hv_aload_n C dX9_runScript_75 2 rfl ?_
          refine hv_get C dX9_runScript_76 (fun w h => hw_c (tw_u_9 w h)) 0 (ci := 7) rfl rfl 4 (by decide) (hw_c tw_f_RX9_16) rfl ?_
          refine hv_iconst C dX9_runScript_79 (v := zI (0)) rfl ?_
          refine hv_callS (As := [.ref nw, .int (zI (0)), .ref tr, .int (zI (0))]) (rest := []) (wc := [(nw, .inl (dA 0, 12, .inl (fun i => zI (g i)))), (tr, .inl (dA 0, 12, .inl (fun i => zI (t i))))]) (wr := [(m9, .inr (7, [.int (zI (0)), .ref xt, .int (zI (sz)), .ref nw, .ref tr, .ref di, .int (zI (ac)), .ref ke, .ref ik, .ref wt, .int (zI (ld)), .int (zI (sp)), .int (zI (ou))])), (wt, .inl (dA 0, 4096, .inl (fun i => zI (wv i))))]) C (k_X9_copyState l D dA nw tr 12 12 g t 0 0 rfl rfl (by omega) (by omega) (by omega) (by omega)) (va_cwS 4 C.1.2.2.2.2 (hw_S tw_m_RX9_162 tw_t_X9_copyState tw_n_RX9 tw_k_X9_copyState) rfl rfl rfl (by decide +kernel) ⟨Nat.le_of_ble_eq_true rfl, Nat.le_of_ble_eq_true rfl⟩) (hv_pm [1, 1] rfl) rfl rfl (Nat.le_of_ble_eq_true rfl) dX9_runScript_80 ⟨Nat.le_of_ble_eq_true rfl, Nat.le_of_ble_eq_true rfl⟩ (fun _ _ => ?_)
          refine hv_eqst (st' := []) rfl ?_
          refine hv_weq (ws' := [(nw, .inl (dA 0, 12, .inl (fun i => zI (g i)))), (tr, .inl (dA 0, 12, .inl (fun i => zI ((mz_c t g 0 0 12) i)))), (m9, .inr (7, [.int (zI (0)), .ref xt, .int (zI (sz)), .ref nw, .ref tr, .ref di, .int (zI (ac)), .ref ke, .ref ik, .ref wt, .int (zI (ld)), .int (zI (sp)), .int (zI (ou))])), (wt, .inl (dA 0, 4096, .inl (fun i => zI (wv i))))]) (rfl) ?_
          refine hv_srt [2, 0, 0, 0] (ws' := [(m9, .inr (7, [.int (zI (0)), .ref xt, .int (zI (sz)), .ref nw, .ref tr, .ref di, .int (zI (ac)), .ref ke, .ref ik, .ref wt, .int (zI (ld)), .int (zI (sp)), .int (zI (ou))])), (nw, .inl (dA 0, 12, .inl (fun i => zI (g i)))), (tr, .inl (dA 0, 12, .inl (fun i => zI ((mz_c t g 0 0 12) i)))), (wt, .inl (dA 0, 4096, .inl (fun i => zI (wv i))))]) rfl ?_
          refine hv_acg 2 (f' := fun i => zI (g i)) rfl (fun i hi => ?_) rfl ?_
          · exact congrArg zI ((by rw [mz_c_eq, if_pos (by omega)]; congr 1; omega))
          refine hv_iconst C dX9_runScript_83 (v := zI (0)) rfl ?_
          refine hv_istore C dX9_runScript_84 (lw := [(6, .int (zI (0))), (4, .long (mz_all i)), (0, .ref m9), (1, .int (zI (z))), (2, .long (x9))]) (by decide) rfl ?_
          refine hv_loop (σ := Nat × (Nat → Int) × Int × (Nat → Int)) (fun n9 x => x.1 + n9 = z.toNat ∧ WF x.2.1 ∧ mz_LW x.2.2.1 x.2.2.2 ∧ ox_run x9 z.toNat n9 x.1 x.2.1 = ox_run x9 z.toNat z.toNat 0 g) (fun x => [(m9, .inr (7, [.int (zI (0)), .ref xt, .int (zI (sz)), .ref nw, .ref tr, .ref di, .int (zI (ac)), .ref ke, .ref ik, .ref wt, .int (zI (x.2.2.1)), .int (zI (sp)), .int (zI (ou))])), (nw, .inl (dA 0, 12, .inl (fun i => zI (g i)))), (tr, .inl (dA 0, 12, .inl (fun i => zI (x.2.1 i)))), (wt, .inl (dA 0, 4096, .inl (fun i => zI (x.2.2.2 i))))]) (fun x => [(6, .int (zI ((x.1 : Int)))), (4, .long (mz_all (z.toNat - x.1))), (0, .ref m9), (1, .int (zI (z))), (2, .long (x9))]) (fun x => []) (fun _ => 0) (fun _ => 0) (z.toNat) ((0, g, ld, wv)) (⟨Nat.zero_add _, hg, hl, rfl⟩) (⟨rfl, by rw [show i = z.toNat - (0, g, ld, wv).1 from by dsimp only; omega]; rfl, rfl, rfl, rfl⟩) (fun n9 x hI ih => ?_)
          obtain ⟨j, t5, ld5, wv5⟩ := x
          dsimp only at hI ⊢
          obtain ⟨hi1, ht5, hl5, hr5⟩ := hI
          have hqr := ox_q_ran x9 z.toNat j
          refine hv_iload C dX9_runScript_86 0 rfl ?_
          refine hv_iload_n C dX9_runScript_88 3 rfl ?_
          refine hv_icmp_ge C dX9_runScript_89 (tgt := 139) (by decide) (zI_le (by omega)) (fun hc89 => ?_) (fun hc89 => ?_)
          · refine hv_iconst C dX9_runScript_139 (v := zI (-1)) rfl ?_
            exact hv_iret C M dX9_runScript_140 rfl rfl (t5, ld5, wv5) hl5 (by rw [e9]; exact hv_rv (by rw [← hr5]; obtain rfl : n9 = 0 := (by omega); rfl)) [] (List.Perm.of_eq (by rw [e8]; rfl)) (Nat.le_refl _) (Nat.le_refl _)
          · refine hv_lload C dX9_runScript_92 1 rfl ?_
            refine hv_ldc2 C dX9_runScript_94 (hw_c tw_o_RX9_187) ?_
            refine hv_ldiv C dX9_runScript_97 (by decide) (z := (mz_all (z.toNat - (j + 1)))) (by rw [show z.toNat - (j + 1) = z.toNat - 1 - j by omega]; have hmd := mz_all_d (z.toNat - 1 - j) (by omega); rw [show z.toNat - 1 - j + 1 = z.toNat - j by omega] at hmd; exact hmd) ?_
            refine hv_lstore C dX9_runScript_98 (lw := [(4, .long (mz_all (z.toNat - (j + 1)))), (6, .int (zI ((j : Int)))), (0, .ref m9), (1, .int (zI (z))), (2, .long (x9))]) (by decide) rfl ?_
            refine hv_lload_n C dX9_runScript_100 4 rfl ?_
            refine hv_lload C dX9_runScript_101 0 rfl ?_
            refine hv_ldiv C dX9_runScript_103 (fun q => by have w1 := mz_all_i (k := z.toNat - (j + 1)) (by omega); have w2 := mz_pw (z.toNat - (j + 1)) (by omega); rw [q, show (0 : Int64).toInt = 0 from by decide] at w1; omega) (z := (ox_wg x9 (z.toNat - 1 - j))) (by rw [show z.toNat - (j + 1) = z.toNat - 1 - j by omega]; exact mz_div hx0 (by omega)) ?_
            refine hv_ldc2 C dX9_runScript_104 (hw_c tw_o_RX9_187) ?_
            refine hv_lrem C dX9_runScript_107 (by decide) (z := (sm_m (ox_wg x9 (z.toNat - 1 - j)))) (by rfl) ?_
            refine hv_l2i C dX9_runScript_108 (v := (zI ((ox_q x9 z.toNat j)))) (by exact sm_m_i (ox_wg_0 hx0 _)) ?_
            refine hv_istore C dX9_runScript_109 (lw := [(7, .int (zI ((ox_q x9 z.toNat j)))), (4, .long (mz_all (z.toNat - (j + 1)))), (6, .int (zI ((j : Int)))), (0, .ref m9), (1, .int (zI (z))), (2, .long (x9))]) (by decide) rfl ?_
            refine hv_aload_n C dX9_runScript_111 3 rfl ?_
            refine hv_iload C dX9_runScript_112 0 rfl ?_
            refine hv_sipush C dX9_runScript_114 (v := zI (1000)) (by decide +kernel) ?_
            refine hv_idiv C dX9_runScript_117 (z := zI ((ox_q x9 z.toNat j) / 1000)) ((zI_ne0 (by omega)).mpr (by omega)) ((zI_div (by omega)).trans (zI_c (by rfl))) ?_
            refine hv_iload C dX9_runScript_118 0 rfl ?_
            refine hv_sipush C dX9_runScript_120 (v := zI (1000)) (by decide +kernel) ?_
            refine hv_irem C dX9_runScript_123 (z := zI ((ox_q x9 z.toNat j) % 1000)) ((zI_ne0 (by omega)).mpr (by omega)) ((zI_rem (by omega)).trans (zI_c (by rfl))) ?_
            refine hv_callV (As := [.int (zI ((ox_q x9 z.toNat j) / 1000)), .int (zI ((ox_q x9 z.toNat j) % 1000))]) (rest := []) (wc := [(m9, .inr (7, [.int (zI (0)), .ref xt, .int (zI (sz)), .ref nw, .ref tr, .ref di, .int (zI (ac)), .ref ke, .ref ik, .ref wt, .int (zI (ld5)), .int (zI (sp)), .int (zI (ou))])), (tr, .inl (dA 0, 12, .inl (fun i => zI (t5 i)))), (wt, .inl (dA 0, 4096, .inl (fun i => zI (wv5 i))))]) (wr := [(nw, .inl (dA 0, 12, .inl (fun i => zI (g i))))]) C (k_X9_command l D dA m9 xt nw tr di ke ik wt 0 sz ac ld5 sp ou t5 ht5 wv5 hl5 (ox_q x9 z.toNat j) hqr) (cwV 2 C.1.2.2.2.2 (hw_V tw_m_RX9_189 tw_i_X9_command tw_s_X9_command tw_n_RX9 tw_k_X9_command) rfl rfl rfl (by decide +kernel) ⟨Nat.le_of_ble_eq_true rfl, Nat.le_of_ble_eq_true rfl⟩) (hv_pm [0, 1, 1] rfl) rfl 0 7 rfl rfl rfl (Nat.le_of_ble_eq_true rfl) dX9_runScript_124 ⟨Nat.le_of_ble_eq_true rfl, Nat.le_of_ble_eq_true rfl⟩ (fun u7 hu7 => ?_)
            refine hv_eqst (st' := [.int (zI (zB (ox_gb t5 (ox_q x9 z.toNat j))))]) rfl ?_
            refine hv_weq (ws' := [(m9, .inr (7, [.int (zI (0)), .ref xt, .int (zI (sz)), .ref nw, .ref tr, .ref di, .int (zI (ac)), .ref ke, .ref ik, .ref wt, .int (zI (u7.2.1)), .int (zI (sp)), .int (zI (ou))])), (tr, .inl (dA 0, 12, .inl (fun i => zI (u7.1 i)))), (wt, .inl (dA 0, 4096, .inl (fun i => zI (u7.2.2 i)))), (nw, .inl (dA 0, 12, .inl (fun i => zI (g i))))]) (rfl) ?_
            refine hv_srt [0, 2, 0, 0] (ws' := [(m9, .inr (7, [.int (zI (0)), .ref xt, .int (zI (sz)), .ref nw, .ref tr, .ref di, .int (zI (ac)), .ref ke, .ref ik, .ref wt, .int (zI (u7.2.1)), .int (zI (sp)), .int (zI (ou))])), (nw, .inl (dA 0, 12, .inl (fun i => zI (g i)))), (tr, .inl (dA 0, 12, .inl (fun i => zI (u7.1 i)))), (wt, .inl (dA 0, 4096, .inl (fun i => zI (u7.2.2 i))))]) rfl ?_
            refine hv_if_ne C dX9_runScript_127 (tgt := 133) (by decide) zB_en (fun hc127 => ?_) (fun hc127 => ?_)
            · refine hv_iinc C dX9_runScript_133 2 rfl (v := zI ((j : Int) + 1)) (zI_add _ _) (by decide) (lw := [(6, .int (zI ((j : Int) + 1))), (7, .int (zI ((ox_q x9 z.toNat j)))), (4, .long (mz_all (z.toNat - (j + 1)))), (0, .ref m9), (1, .int (zI (z))), (2, .long (x9))]) rfl ?_
              refine hv_goto C dX9_runScript_136 (tgt := 86) (by decide) ?_
              refine hv_lsub [0, 2, 3, 4, 5] (lv' := [(6, .int (zI ((j : Int) + 1))), (4, .long (mz_all (z.toNat - (j + 1)))), (0, .ref m9), (1, .int (zI (z))), (2, .long (x9))]) rfl ?_
              obtain ⟨k, rfl⟩ : ∃ k, n9 = k + 1 := ⟨n9 - 1, by omega⟩
              refine hv_weq (ws' := [(m9, .inr (7, [.int (zI (0)), .ref xt, .int (zI (sz)), .ref nw, .ref tr, .ref di, .int (zI (ac)), .ref ke, .ref ik, .ref wt, .int (zI (u7.2.1)), .int (zI (sp)), .int (zI (ou))])), (nw, .inl (dA 0, 12, .inl (fun i => zI (g i)))), (tr, .inl (dA 0, 12, .inl (fun i => zI ((ox_gs t5 (ox_q x9 z.toNat j)) i)))), (wt, .inl (dA 0, 4096, .inl (fun i => zI (u7.2.2 i))))]) (by rw [hu7.1 hc127]) ?_
              exact ih k (j + 1, ox_gs t5 (ox_q x9 z.toNat j), u7.2.1, u7.2.2) (by omega) ⟨by dsimp only; omega, WF_gs ht5 _, hu7.2, by rw [← hr5]; dsimp only; rw [ox_run, if_pos hc127]⟩
            · refine hv_iload C dX9_runScript_130 2 rfl ?_
              exact hv_iret C M dX9_runScript_132 rfl rfl (u7.1, u7.2.1, u7.2.2) hu7.2 (by rw [e9]; exact hv_rv (by rw [← hr5]; obtain ⟨k, rfl⟩ : ∃ k, n9 = k + 1 := ⟨n9 - 1, by omega⟩; rw [ox_run, if_neg hc127])) [] (List.Perm.of_eq (by rw [e8]; rfl)) (Nat.le_refl _) (Nat.le_refl _)
        · exact absurd hc65 (by omega)
  · refine hv_iload C dX9_runScript_12 0 rfl ?_
    refine hv_iconst C dX9_runScript_14 (v := zI (3)) rfl ?_
    refine hv_icmp_ge C dX9_runScript_15 (tgt := 32) (by decide) (zI_le (by omega)) (fun hc15 => ?_) (fun hc15 => ?_)
    · refine hv_aload_n C dX9_runScript_32 2 rfl ?_
      refine hv_iload_n C dX9_runScript_33 3 rfl ?_
      refine hv_i2l C dX9_runScript_34 (v := (zL (z))) (by exact zL_i (by omega)) ?_
      refine hv_lconst C dX9_runScript_35 (v := 1) rfl ?_
      refine hv_ldc2 C dX9_runScript_36 (hw_c tw_o_RX9_51) ?_
      refine hv_eqst (st' := [.long (zL 3), .long (zL 1), .long (zL (z)), .ref m9]) (by rfl) ?_
      refine hv_callS (As := [.long (zL (z)), .long (zL 1), .long (zL 3)]) (rest := [.ref m9]) (wc := []) (wr := [(m9, .inr (7, [.int (zI (rf)), .ref xt, .int (zI (sz)), .ref nw, .ref tr, .ref di, .int (zI (ac)), .ref ke, .ref ik, .ref wt, .int (zI (ld)), .int (zI (sp)), .int (zI (ou))])), (nw, .inl (dA 0, 12, .inl (fun i => zI (g i)))), (tr, .inl (dA 0, 12, .inl (fun i => zI (t i)))), (wt, .inl (dA 0, 4096, .inl (fun i => zI (wv i))))]) C (k_X9_in l D dA z (by omega) 1 (by omega) 3 (by omega)) (va_cwS 3 C.1.2.2.2.2 (hw_S tw_m_RX9_43 tw_t_X9_in tw_n_RX9 tw_k_X9_in) rfl rfl rfl (by decide +kernel) ⟨Nat.le_of_ble_eq_true rfl, Nat.le_of_ble_eq_true rfl⟩) (hv_pm [] rfl) rfl rfl (Nat.le_of_ble_eq_true rfl) dX9_runScript_39 ⟨Nat.le_of_ble_eq_true rfl, Nat.le_of_ble_eq_true rfl⟩ (fun _ _ => ?_)
      refine hv_eqst (st' := [.int (zI (zB (decide (1 ≤ z ∧ z ≤ 3)))), .ref m9]) rfl ?_
      refine hv_weq (ws' := [(m9, .inr (7, [.int (zI (rf)), .ref xt, .int (zI (sz)), .ref nw, .ref tr, .ref di, .int (zI (ac)), .ref ke, .ref ik, .ref wt, .int (zI (ld)), .int (zI (sp)), .int (zI (ou))])), (nw, .inl (dA 0, 12, .inl (fun i => zI (g i)))), (tr, .inl (dA 0, 12, .inl (fun i => zI (t i)))), (wt, .inl (dA 0, 4096, .inl (fun i => zI (wv i))))]) (rfl) ?_
      refine hv_if_eq C dX9_runScript_42 (tgt := 61) (by decide) zB_0 (fun hc42 => ?_) (fun hc42 => ?_)
      · refine hv_iconst C dX9_runScript_61 (v := zI (1)) rfl ?_
        refine hv_callV (As := [.int (zI (1))]) (rest := []) (wc := [(m9, .inr (7, [.int (zI (rf)), .ref xt, .int (zI (sz)), .ref nw, .ref tr, .ref di, .int (zI (ac)), .ref ke, .ref ik, .ref wt, .int (zI (ld)), .int (zI (sp)), .int (zI (ou))]))]) (wr := [(nw, .inl (dA 0, 12, .inl (fun i => zI (g i)))), (tr, .inl (dA 0, 12, .inl (fun i => zI (t i)))), (wt, .inl (dA 0, 4096, .inl (fun i => zI (wv i))))]) C (k_X9_refused l D dA m9 xt nw tr di ke ik wt (rf) (sz) (ac) (ld) (sp) (ou) 1 (by omega)) (cwV 1 C.1.2.2.2.2 (hw_V tw_m_RX9_122 tw_i_X9_refused tw_s_X9_refused tw_n_RX9 tw_k_X9_refused) rfl rfl rfl (by decide +kernel) ⟨Nat.le_of_ble_eq_true rfl, Nat.le_of_ble_eq_true rfl⟩) (hv_pm [0] rfl) rfl 0 7 rfl rfl rfl (Nat.le_of_ble_eq_true rfl) dX9_runScript_62 ⟨Nat.le_of_ble_eq_true rfl, Nat.le_of_ble_eq_true rfl⟩ (fun _ _ => ?_)
        have e9 : xc_run z x9 = some hx_IAE := by by_cases qz : 1 ≤ z ∧ z ≤ 3; (obtain rfl : i = z.toNat := (by omega); rw [mz_run qz, if_neg (by omega)]); exact mz_run_b qz
        have e8 : mz_k1 (xc_run z x9) = 1 := by rw [e9]; exact mz_k1s
        refine hv_eqst (st' := [.int (zI (zB (decide ((0 : Int) < 1))))]) rfl ?_
        refine hv_weq (ws' := [(m9, .inr (7, [.int (zI (1)), .ref xt, .int (zI (sz)), .ref nw, .ref tr, .ref di, .int (zI (ac)), .ref ke, .ref ik, .ref wt, .int (zI (ld)), .int (zI (sp)), .int (zI (ou))])), (nw, .inl (dA 0, 12, .inl (fun i => zI (g i)))), (tr, .inl (dA 0, 12, .inl (fun i => zI (t i)))), (wt, .inl (dA 0, 4096, .inl (fun i => zI (wv i))))]) (rfl) ?_
        refine hv_if_eq C dX9_runScript_65 (tgt := 70) (by decide) zB_0 (fun hc65 => ?_) (fun hc65 => ?_)
        · exact absurd hc65 (by omega)
        · refine hv_iconst C dX9_runScript_68 (v := zI (0)) rfl ?_
          exact hv_iret C M dX9_runScript_69 rfl rfl (t, ld, wv) hl (by rw [e9]; rfl) [] (List.Perm.of_eq (by rw [e8]; rfl)) (Nat.le_refl _) (Nat.le_refl _)
      · refine hv_lload_n C dX9_runScript_45 4 rfl ?_
        refine hv_lconst C dX9_runScript_46 (v := 0) rfl ?_
        refine hv_lload C dX9_runScript_47 1 rfl ?_
        refine hv_lconst C dX9_runScript_49 (v := 1) rfl ?_
        refine hv_lsubi C dX9_runScript_50 (z := (mz_all i - 1)) (by rfl) ?_
        refine hv_eqst (st' := [.long (zL (((10000 ^ i : Nat) : Int) - 1)), .long (zL 0), .long (zL x9.toInt), .ref m9]) (by rw [← mz_all_1 i (by omega), ← zL_of]; rfl) ?_
        refine hv_callS (As := [.long (zL x9.toInt), .long (zL 0), .long (zL (((10000 ^ i : Nat) : Int) - 1))]) (rest := [.ref m9]) (wc := []) (wr := [(m9, .inr (7, [.int (zI (rf)), .ref xt, .int (zI (sz)), .ref nw, .ref tr, .ref di, .int (zI (ac)), .ref ke, .ref ik, .ref wt, .int (zI (ld)), .int (zI (sp)), .int (zI (ou))])), (nw, .inl (dA 0, 12, .inl (fun i => zI (g i)))), (tr, .inl (dA 0, 12, .inl (fun i => zI (t i)))), (wt, .inl (dA 0, 4096, .inl (fun i => zI (wv i))))]) C (k_X9_in l D dA x9.toInt (mz_xr x9) 0 (by omega) (((10000 ^ i : Nat) : Int) - 1) (by have := mz_pw i (by omega); omega)) (va_cwS 3 C.1.2.2.2.2 (hw_S tw_m_RX9_43 tw_t_X9_in tw_n_RX9 tw_k_X9_in) rfl rfl rfl (by decide +kernel) ⟨Nat.le_of_ble_eq_true rfl, Nat.le_of_ble_eq_true rfl⟩) (hv_pm [] rfl) rfl rfl (Nat.le_of_ble_eq_true rfl) dX9_runScript_51 ⟨Nat.le_of_ble_eq_true rfl, Nat.le_of_ble_eq_true rfl⟩ (fun _ _ => ?_)
        refine hv_eqst (st' := [.int (zI (zB (decide (0 ≤ x9.toInt ∧ x9.toInt ≤ ((10000 ^ i : Nat) : Int) - 1)))), .ref m9]) rfl ?_
        refine hv_weq (ws' := [(m9, .inr (7, [.int (zI (rf)), .ref xt, .int (zI (sz)), .ref nw, .ref tr, .ref di, .int (zI (ac)), .ref ke, .ref ik, .ref wt, .int (zI (ld)), .int (zI (sp)), .int (zI (ou))])), (nw, .inl (dA 0, 12, .inl (fun i => zI (g i)))), (tr, .inl (dA 0, 12, .inl (fun i => zI (t i)))), (wt, .inl (dA 0, 4096, .inl (fun i => zI (wv i))))]) (rfl) ?_
        refine hv_if_eq C dX9_runScript_54 (tgt := 61) (by decide) zB_0 (fun hc54 => ?_) (fun hc54 => ?_)
        · refine hv_iconst C dX9_runScript_61 (v := zI (1)) rfl ?_
          refine hv_callV (As := [.int (zI (1))]) (rest := []) (wc := [(m9, .inr (7, [.int (zI (rf)), .ref xt, .int (zI (sz)), .ref nw, .ref tr, .ref di, .int (zI (ac)), .ref ke, .ref ik, .ref wt, .int (zI (ld)), .int (zI (sp)), .int (zI (ou))]))]) (wr := [(nw, .inl (dA 0, 12, .inl (fun i => zI (g i)))), (tr, .inl (dA 0, 12, .inl (fun i => zI (t i)))), (wt, .inl (dA 0, 4096, .inl (fun i => zI (wv i))))]) C (k_X9_refused l D dA m9 xt nw tr di ke ik wt (rf) (sz) (ac) (ld) (sp) (ou) 1 (by omega)) (cwV 1 C.1.2.2.2.2 (hw_V tw_m_RX9_122 tw_i_X9_refused tw_s_X9_refused tw_n_RX9 tw_k_X9_refused) rfl rfl rfl (by decide +kernel) ⟨Nat.le_of_ble_eq_true rfl, Nat.le_of_ble_eq_true rfl⟩) (hv_pm [0] rfl) rfl 0 7 rfl rfl rfl (Nat.le_of_ble_eq_true rfl) dX9_runScript_62 ⟨Nat.le_of_ble_eq_true rfl, Nat.le_of_ble_eq_true rfl⟩ (fun _ _ => ?_)
          have e9 : xc_run z x9 = some hx_IAE := by by_cases qz : 1 ≤ z ∧ z ≤ 3; (obtain rfl : i = z.toNat := (by omega); rw [mz_run qz, if_neg (by omega)]); exact mz_run_b qz
          have e8 : mz_k1 (xc_run z x9) = 1 := by rw [e9]; exact mz_k1s
          refine hv_eqst (st' := [.int (zI (zB (decide ((0 : Int) < 1))))]) rfl ?_
          refine hv_weq (ws' := [(m9, .inr (7, [.int (zI (1)), .ref xt, .int (zI (sz)), .ref nw, .ref tr, .ref di, .int (zI (ac)), .ref ke, .ref ik, .ref wt, .int (zI (ld)), .int (zI (sp)), .int (zI (ou))])), (nw, .inl (dA 0, 12, .inl (fun i => zI (g i)))), (tr, .inl (dA 0, 12, .inl (fun i => zI (t i)))), (wt, .inl (dA 0, 4096, .inl (fun i => zI (wv i))))]) (rfl) ?_
          refine hv_if_eq C dX9_runScript_65 (tgt := 70) (by decide) zB_0 (fun hc65 => ?_) (fun hc65 => ?_)
          · exact absurd hc65 (by omega)
          · refine hv_iconst C dX9_runScript_68 (v := zI (0)) rfl ?_
            exact hv_iret C M dX9_runScript_69 rfl rfl (t, ld, wv) hl (by rw [e9]; rfl) [] (List.Perm.of_eq (by rw [e8]; rfl)) (Nat.le_refl _) (Nat.le_refl _)
        · refine hv_iconst C dX9_runScript_57 (v := zI (0)) rfl ?_
          refine hv_goto C dX9_runScript_58 (tgt := 62) (by decide) ?_
          refine hv_callV (As := [.int (zI (0))]) (rest := []) (wc := [(m9, .inr (7, [.int (zI (rf)), .ref xt, .int (zI (sz)), .ref nw, .ref tr, .ref di, .int (zI (ac)), .ref ke, .ref ik, .ref wt, .int (zI (ld)), .int (zI (sp)), .int (zI (ou))]))]) (wr := [(nw, .inl (dA 0, 12, .inl (fun i => zI (g i)))), (tr, .inl (dA 0, 12, .inl (fun i => zI (t i)))), (wt, .inl (dA 0, 4096, .inl (fun i => zI (wv i))))]) C (k_X9_refused l D dA m9 xt nw tr di ke ik wt (rf) (sz) (ac) (ld) (sp) (ou) 0 (by omega)) (cwV 1 C.1.2.2.2.2 (hw_V tw_m_RX9_122 tw_i_X9_refused tw_s_X9_refused tw_n_RX9 tw_k_X9_refused) rfl rfl rfl (by decide +kernel) ⟨Nat.le_of_ble_eq_true rfl, Nat.le_of_ble_eq_true rfl⟩) (hv_pm [0] rfl) rfl 0 7 rfl rfl rfl (Nat.le_of_ble_eq_true rfl) dX9_runScript_62 ⟨Nat.le_of_ble_eq_true rfl, Nat.le_of_ble_eq_true rfl⟩ (fun _ _ => ?_)
          have e9 : xc_run z x9 = none := by obtain rfl : i = z.toNat := (by omega); rw [mz_run (by omega), if_pos (by omega)]
          have e8 : mz_k1 (xc_run z x9) = 0 := by rw [e9]; exact mz_k1n
          refine hv_eqst (st' := [.int (zI (zB (decide ((0 : Int) < 0))))]) rfl ?_
          refine hv_weq (ws' := [(m9, .inr (7, [.int (zI (0)), .ref xt, .int (zI (sz)), .ref nw, .ref tr, .ref di, .int (zI (ac)), .ref ke, .ref ik, .ref wt, .int (zI (ld)), .int (zI (sp)), .int (zI (ou))])), (nw, .inl (dA 0, 12, .inl (fun i => zI (g i)))), (tr, .inl (dA 0, 12, .inl (fun i => zI (t i)))), (wt, .inl (dA 0, 4096, .inl (fun i => zI (wv i))))]) (rfl) ?_
          refine hv_if_eq C dX9_runScript_65 (tgt := 70) (by decide) zB_0 (fun hc65 => ?_) (fun hc65 => ?_)
          · have hx0 : 0 ≤ x9.toInt := by omega
            have hz3 : 1 ≤ z ∧ z ≤ 3 := by omega
            refine hv_aload_n C dX9_runScript_70 2 rfl ?_
            refine hv_get C dX9_runScript_71 (fun w h => hw_c (tw_u_9 w h)) 0 (ci := 7) rfl rfl 3 (by decide) (hw_c tw_f_RX9_13) rfl ?_
            refine hv_iconst C dX9_runScript_74 (v := zI (0)) rfl ?_
            refine hv_aload_n C dX9_runScript_75 2 rfl ?_
            refine hv_get C dX9_runScript_76 (fun w h => hw_c (tw_u_9 w h)) 0 (ci := 7) rfl rfl 4 (by decide) (hw_c tw_f_RX9_16) rfl ?_
            refine hv_iconst C dX9_runScript_79 (v := zI (0)) rfl ?_
            refine hv_callS (As := [.ref nw, .int (zI (0)), .ref tr, .int (zI (0))]) (rest := []) (wc := [(nw, .inl (dA 0, 12, .inl (fun i => zI (g i)))), (tr, .inl (dA 0, 12, .inl (fun i => zI (t i))))]) (wr := [(m9, .inr (7, [.int (zI (0)), .ref xt, .int (zI (sz)), .ref nw, .ref tr, .ref di, .int (zI (ac)), .ref ke, .ref ik, .ref wt, .int (zI (ld)), .int (zI (sp)), .int (zI (ou))])), (wt, .inl (dA 0, 4096, .inl (fun i => zI (wv i))))]) C (k_X9_copyState l D dA nw tr 12 12 g t 0 0 rfl rfl (by omega) (by omega) (by omega) (by omega)) (va_cwS 4 C.1.2.2.2.2 (hw_S tw_m_RX9_162 tw_t_X9_copyState tw_n_RX9 tw_k_X9_copyState) rfl rfl rfl (by decide +kernel) ⟨Nat.le_of_ble_eq_true rfl, Nat.le_of_ble_eq_true rfl⟩) (hv_pm [1, 1] rfl) rfl rfl (Nat.le_of_ble_eq_true rfl) dX9_runScript_80 ⟨Nat.le_of_ble_eq_true rfl, Nat.le_of_ble_eq_true rfl⟩ (fun _ _ => ?_)
            refine hv_eqst (st' := []) rfl ?_
            refine hv_weq (ws' := [(nw, .inl (dA 0, 12, .inl (fun i => zI (g i)))), (tr, .inl (dA 0, 12, .inl (fun i => zI ((mz_c t g 0 0 12) i)))), (m9, .inr (7, [.int (zI (0)), .ref xt, .int (zI (sz)), .ref nw, .ref tr, .ref di, .int (zI (ac)), .ref ke, .ref ik, .ref wt, .int (zI (ld)), .int (zI (sp)), .int (zI (ou))])), (wt, .inl (dA 0, 4096, .inl (fun i => zI (wv i))))]) (rfl) ?_
            refine hv_srt [2, 0, 0, 0] (ws' := [(m9, .inr (7, [.int (zI (0)), .ref xt, .int (zI (sz)), .ref nw, .ref tr, .ref di, .int (zI (ac)), .ref ke, .ref ik, .ref wt, .int (zI (ld)), .int (zI (sp)), .int (zI (ou))])), (nw, .inl (dA 0, 12, .inl (fun i => zI (g i)))), (tr, .inl (dA 0, 12, .inl (fun i => zI ((mz_c t g 0 0 12) i)))), (wt, .inl (dA 0, 4096, .inl (fun i => zI (wv i))))]) rfl ?_
            refine hv_acg 2 (f' := fun i => zI (g i)) rfl (fun i hi => ?_) rfl ?_
            · exact congrArg zI ((by rw [mz_c_eq, if_pos (by omega)]; congr 1; omega))
            refine hv_iconst C dX9_runScript_83 (v := zI (0)) rfl ?_
            refine hv_istore C dX9_runScript_84 (lw := [(6, .int (zI (0))), (4, .long (mz_all i)), (0, .ref m9), (1, .int (zI (z))), (2, .long (x9))]) (by decide) rfl ?_
            refine hv_loop (σ := Nat × (Nat → Int) × Int × (Nat → Int)) (fun n9 x => x.1 + n9 = z.toNat ∧ WF x.2.1 ∧ mz_LW x.2.2.1 x.2.2.2 ∧ ox_run x9 z.toNat n9 x.1 x.2.1 = ox_run x9 z.toNat z.toNat 0 g) (fun x => [(m9, .inr (7, [.int (zI (0)), .ref xt, .int (zI (sz)), .ref nw, .ref tr, .ref di, .int (zI (ac)), .ref ke, .ref ik, .ref wt, .int (zI (x.2.2.1)), .int (zI (sp)), .int (zI (ou))])), (nw, .inl (dA 0, 12, .inl (fun i => zI (g i)))), (tr, .inl (dA 0, 12, .inl (fun i => zI (x.2.1 i)))), (wt, .inl (dA 0, 4096, .inl (fun i => zI (x.2.2.2 i))))]) (fun x => [(6, .int (zI ((x.1 : Int)))), (4, .long (mz_all (z.toNat - x.1))), (0, .ref m9), (1, .int (zI (z))), (2, .long (x9))]) (fun x => []) (fun _ => 0) (fun _ => 0) (z.toNat) ((0, g, ld, wv)) (⟨Nat.zero_add _, hg, hl, rfl⟩) (⟨rfl, by rw [show i = z.toNat - (0, g, ld, wv).1 from by dsimp only; omega]; rfl, rfl, rfl, rfl⟩) (fun n9 x hI ih => ?_)
            obtain ⟨j, t5, ld5, wv5⟩ := x
            dsimp only at hI ⊢
            obtain ⟨hi1, ht5, hl5, hr5⟩ := hI
            have hqr := ox_q_ran x9 z.toNat j
            refine hv_iload C dX9_runScript_86 0 rfl ?_
            refine hv_iload_n C dX9_runScript_88 3 rfl ?_
            refine hv_icmp_ge C dX9_runScript_89 (tgt := 139) (by decide) (zI_le (by omega)) (fun hc89 => ?_) (fun hc89 => ?_)
            · refine hv_iconst C dX9_runScript_139 (v := zI (-1)) rfl ?_
              exact hv_iret C M dX9_runScript_140 rfl rfl (t5, ld5, wv5) hl5 (by rw [e9]; exact hv_rv (by rw [← hr5]; obtain rfl : n9 = 0 := (by omega); rfl)) [] (List.Perm.of_eq (by rw [e8]; rfl)) (Nat.le_refl _) (Nat.le_refl _)
            · refine hv_lload C dX9_runScript_92 1 rfl ?_
              refine hv_ldc2 C dX9_runScript_94 (hw_c tw_o_RX9_187) ?_
              refine hv_ldiv C dX9_runScript_97 (by decide) (z := (mz_all (z.toNat - (j + 1)))) (by rw [show z.toNat - (j + 1) = z.toNat - 1 - j by omega]; have hmd := mz_all_d (z.toNat - 1 - j) (by omega); rw [show z.toNat - 1 - j + 1 = z.toNat - j by omega] at hmd; exact hmd) ?_
              refine hv_lstore C dX9_runScript_98 (lw := [(4, .long (mz_all (z.toNat - (j + 1)))), (6, .int (zI ((j : Int)))), (0, .ref m9), (1, .int (zI (z))), (2, .long (x9))]) (by decide) rfl ?_
              refine hv_lload_n C dX9_runScript_100 4 rfl ?_
              refine hv_lload C dX9_runScript_101 0 rfl ?_
              refine hv_ldiv C dX9_runScript_103 (fun q => by have w1 := mz_all_i (k := z.toNat - (j + 1)) (by omega); have w2 := mz_pw (z.toNat - (j + 1)) (by omega); rw [q, show (0 : Int64).toInt = 0 from by decide] at w1; omega) (z := (ox_wg x9 (z.toNat - 1 - j))) (by rw [show z.toNat - (j + 1) = z.toNat - 1 - j by omega]; exact mz_div hx0 (by omega)) ?_
              refine hv_ldc2 C dX9_runScript_104 (hw_c tw_o_RX9_187) ?_
              refine hv_lrem C dX9_runScript_107 (by decide) (z := (sm_m (ox_wg x9 (z.toNat - 1 - j)))) (by rfl) ?_
              refine hv_l2i C dX9_runScript_108 (v := (zI ((ox_q x9 z.toNat j)))) (by exact sm_m_i (ox_wg_0 hx0 _)) ?_
              refine hv_istore C dX9_runScript_109 (lw := [(7, .int (zI ((ox_q x9 z.toNat j)))), (4, .long (mz_all (z.toNat - (j + 1)))), (6, .int (zI ((j : Int)))), (0, .ref m9), (1, .int (zI (z))), (2, .long (x9))]) (by decide) rfl ?_
              refine hv_aload_n C dX9_runScript_111 3 rfl ?_
              refine hv_iload C dX9_runScript_112 0 rfl ?_
              refine hv_sipush C dX9_runScript_114 (v := zI (1000)) (by decide +kernel) ?_
              refine hv_idiv C dX9_runScript_117 (z := zI ((ox_q x9 z.toNat j) / 1000)) ((zI_ne0 (by omega)).mpr (by omega)) ((zI_div (by omega)).trans (zI_c (by rfl))) ?_
              refine hv_iload C dX9_runScript_118 0 rfl ?_
              refine hv_sipush C dX9_runScript_120 (v := zI (1000)) (by decide +kernel) ?_
              refine hv_irem C dX9_runScript_123 (z := zI ((ox_q x9 z.toNat j) % 1000)) ((zI_ne0 (by omega)).mpr (by omega)) ((zI_rem (by omega)).trans (zI_c (by rfl))) ?_
              refine hv_callV (As := [.int (zI ((ox_q x9 z.toNat j) / 1000)), .int (zI ((ox_q x9 z.toNat j) % 1000))]) (rest := []) (wc := [(m9, .inr (7, [.int (zI (0)), .ref xt, .int (zI (sz)), .ref nw, .ref tr, .ref di, .int (zI (ac)), .ref ke, .ref ik, .ref wt, .int (zI (ld5)), .int (zI (sp)), .int (zI (ou))])), (tr, .inl (dA 0, 12, .inl (fun i => zI (t5 i)))), (wt, .inl (dA 0, 4096, .inl (fun i => zI (wv5 i))))]) (wr := [(nw, .inl (dA 0, 12, .inl (fun i => zI (g i))))]) C (k_X9_command l D dA m9 xt nw tr di ke ik wt 0 sz ac ld5 sp ou t5 ht5 wv5 hl5 (ox_q x9 z.toNat j) hqr) (cwV 2 C.1.2.2.2.2 (hw_V tw_m_RX9_189 tw_i_X9_command tw_s_X9_command tw_n_RX9 tw_k_X9_command) rfl rfl rfl (by decide +kernel) ⟨Nat.le_of_ble_eq_true rfl, Nat.le_of_ble_eq_true rfl⟩) (hv_pm [0, 1, 1] rfl) rfl 0 7 rfl rfl rfl (Nat.le_of_ble_eq_true rfl) dX9_runScript_124 ⟨Nat.le_of_ble_eq_true rfl, Nat.le_of_ble_eq_true rfl⟩ (fun u7 hu7 => ?_)
              refine hv_eqst (st' := [.int (zI (zB (ox_gb t5 (ox_q x9 z.toNat j))))]) rfl ?_
              refine hv_weq (ws' := [(m9, .inr (7, [.int (zI (0)), .ref xt, .int (zI (sz)), .ref nw, .ref tr, .ref di, .int (zI (ac)), .ref ke, .ref ik, .ref wt, .int (zI (u7.2.1)), .int (zI (sp)), .int (zI (ou))])), (tr, .inl (dA 0, 12, .inl (fun i => zI (u7.1 i)))), (wt, .inl (dA 0, 4096, .inl (fun i => zI (u7.2.2 i)))), (nw, .inl (dA 0, 12, .inl (fun i => zI (g i))))]) (rfl) ?_
              refine hv_srt [0, 2, 0, 0] (ws' := [(m9, .inr (7, [.int (zI (0)), .ref xt, .int (zI (sz)), .ref nw, .ref tr, .ref di, .int (zI (ac)), .ref ke, .ref ik, .ref wt, .int (zI (u7.2.1)), .int (zI (sp)), .int (zI (ou))])), (nw, .inl (dA 0, 12, .inl (fun i => zI (g i)))), (tr, .inl (dA 0, 12, .inl (fun i => zI (u7.1 i)))), (wt, .inl (dA 0, 4096, .inl (fun i => zI (u7.2.2 i))))]) rfl ?_
              refine hv_if_ne C dX9_runScript_127 (tgt := 133) (by decide) zB_en (fun hc127 => ?_) (fun hc127 => ?_)
              · refine hv_iinc C dX9_runScript_133 2 rfl (v := zI ((j : Int) + 1)) (zI_add _ _) (by decide) (lw := [(6, .int (zI ((j : Int) + 1))), (7, .int (zI ((ox_q x9 z.toNat j)))), (4, .long (mz_all (z.toNat - (j + 1)))), (0, .ref m9), (1, .int (zI (z))), (2, .long (x9))]) rfl ?_
                refine hv_goto C dX9_runScript_136 (tgt := 86) (by decide) ?_
                refine hv_lsub [0, 2, 3, 4, 5] (lv' := [(6, .int (zI ((j : Int) + 1))), (4, .long (mz_all (z.toNat - (j + 1)))), (0, .ref m9), (1, .int (zI (z))), (2, .long (x9))]) rfl ?_
                obtain ⟨k, rfl⟩ : ∃ k, n9 = k + 1 := ⟨n9 - 1, by omega⟩
                refine hv_weq (ws' := [(m9, .inr (7, [.int (zI (0)), .ref xt, .int (zI (sz)), .ref nw, .ref tr, .ref di, .int (zI (ac)), .ref ke, .ref ik, .ref wt, .int (zI (u7.2.1)), .int (zI (sp)), .int (zI (ou))])), (nw, .inl (dA 0, 12, .inl (fun i => zI (g i)))), (tr, .inl (dA 0, 12, .inl (fun i => zI ((ox_gs t5 (ox_q x9 z.toNat j)) i)))), (wt, .inl (dA 0, 4096, .inl (fun i => zI (u7.2.2 i))))]) (by rw [hu7.1 hc127]) ?_
                exact ih k (j + 1, ox_gs t5 (ox_q x9 z.toNat j), u7.2.1, u7.2.2) (by omega) ⟨by dsimp only; omega, WF_gs ht5 _, hu7.2, by rw [← hr5]; dsimp only; rw [ox_run, if_pos hc127]⟩
              · refine hv_iload C dX9_runScript_130 2 rfl ?_
                exact hv_iret C M dX9_runScript_132 rfl rfl (u7.1, u7.2.1, u7.2.2) hu7.2 (by rw [e9]; exact hv_rv (by rw [← hr5]; obtain ⟨k, rfl⟩ : ∃ k, n9 = k + 1 := ⟨n9 - 1, by omega⟩; rw [ox_run, if_neg hc127])) [] (List.Perm.of_eq (by rw [e8]; rfl)) (Nat.le_refl _) (Nat.le_refl _)
          · exact absurd hc65 (by omega)
    · refine hv_lload C dX9_runScript_18 1 rfl ?_
      refine hv_ldc2 C dX9_runScript_20 (hw_c tw_o_RX9_187) ?_
      refine hv_lmul C dX9_runScript_23 (z := (mz_all (i + 1))) (by exact mz_all_s i (by omega)) ?_
      refine hv_lstore C dX9_runScript_24 (lw := [(4, .long (mz_all (i + 1))), (6, .int (zI ((i : Int)))), (0, .ref m9), (1, .int (zI (z))), (2, .long (x9))]) (by decide) rfl ?_
      refine hv_iinc C dX9_runScript_26 1 rfl (v := zI (((i + 1 : Nat) : Int))) ((zI_add _ _).trans (zI_c (by omega))) (by decide) (lw := [(6, .int (zI (((i + 1 : Nat) : Int)))), (4, .long (mz_all (i + 1))), (0, .ref m9), (1, .int (zI (z))), (2, .long (x9))]) rfl ?_
      refine hv_goto C dX9_runScript_29 (tgt := 6) (by decide) ?_
      refine hv_lsub [0, 1, 2, 3, 4] (lv' := [(6, .int (zI (((i + 1 : Nat) : Int)))), (4, .long (mz_all (i + 1))), (0, .ref m9), (1, .int (zI (z))), (2, .long (x9))]) rfl ?_
      obtain ⟨k9, rfl⟩ : ∃ k, n9 = k + 1 := ⟨n9 - 1, by omega⟩
      exact ih k9 (i + 1) (by omega) (by omega)
