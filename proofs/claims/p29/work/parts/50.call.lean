/-! the law's method 'call': a contract a method of the class -/
theorem ob_pj {h u : ob_H} {j : Nat} (hu : ob_p h u) (haj : hal h j = true) : hal u j = true := by rw [hu.2]; exact haj
theorem ob_w1 {h u : ob_H} {j : Nat} (hu : ob_k u ∧ hal u = mo_al (hal h) j) : hal u j = true := by rw [hu.2]; exact if_pos rfl

set_option maxRecDepth 100000 in
theorem k_C_append_x (l : Launch) (D : va_G) (dA : Nat → ClassId) (sa : Nat → Nat) (hst : l.stackTraces = false) (a : Nat → Nat) (L : ob_L) (h : ob_H) (hJ : ob_J L) (hk0 : ob_k h) (z1 : Int) (hz1 : -2147483648 ≤ z1 ∧ z1 < 2147483648) (z2 : Int) (z3 : Int) (E0 : String) (hx9 : xc_app 0 z1 = some E0) : hy_Ct l yL_call (hw_W yL_call cL_call 5 (some .int)) 46 D dA sa [.ref (a 0), .int (zI (0)), .int (zI (z1)), .int (zI (z2)), .int (zI (z3))] (ob_W dA a L h) 1 6 (S := ob_H) (fun _ => some (.int (zI (ob_er E0)))) (fun u => ob_p h u) (fun u => ob_W dA a L u) := by
  refine hz_of (own := RL) (cc := cL_call) (maxL := 5) (ret := some .int) rfl (by decide) rfl (Nat.le_of_ble_eq_true rfl) ?_
  intro p e s m args below meth c C X M
  refine hv_lveq (lv' := [(0, .ref (a 0)), (1, .int (zI (0))), (2, .int (zI (z1))), (3, .int (zI (z2))), (4, .int (zI (z3)))]) rfl ?_
  refine hv_iload_n C dL_call_0 1 rfl ?_
  refine hv_tabIn C dL_call_1 (by decide) (by decide) rfl (tgt := 72) (by decide) ?_
  refine hv_aload_n C dL_call_72 0 rfl ?_
  refine hv_iload_n C dL_call_73 2 rfl ?_
  refine hy_callS (As := [.ref (a 0), .int (zI (z1))]) (rest := []) (wc := ob_W dA a L h) (wr := []) C X (k_T_append_x l D dA sa hst a L h hJ hk0 z1 hz1 E0 hx9) (vx_cwSW 2 C.1.2.2.2.2 (hw_SH tw_m_RL_79 tw_t_L_tryAppend tw_n_RL tw_k_L_tryAppend) rfl rfl rfl (by decide +kernel) ⟨Nat.le_of_ble_eq_true rfl, Nat.le_of_ble_eq_true rfl⟩) (List.Perm.of_eq (List.append_nil _).symm) rfl rfl (Nat.le_of_ble_eq_true rfl) dL_call_74 ⟨Nat.le_of_eq (Nat.zero_add _), Nat.le_of_eq (Nat.zero_add _)⟩ (fun u hu => ?_)
  refine hv_weq (ws' := ob_W dA a L u) (List.append_nil _) ?_
  exact hv_iret C M dL_call_77 rfl rfl u hu rfl [] (List.Perm.of_eq (List.append_nil _).symm) (Nat.le_of_eq (Nat.zero_add _)) (Nat.le_of_eq (Nat.zero_add _))

set_option maxRecDepth 100000 in
theorem k_C_about (l : Launch) (D : va_G) (dA : Nat → ClassId) (sa : Nat → Nat) (hst : l.stackTraces = false) (a : Nat → Nat) (L : ob_L) (h : ob_H) (hJ : ob_J L) (hk0 : ob_k h) (z1 : Int) (hz1 : -2147483648 ≤ z1 ∧ z1 < 2147483648) (z2 : Int) (z3 : Int) (hz8 : ¬ z1 = 8) : hy_Ct l yL_call (hw_W yL_call cL_call 5 (some .int)) 46 D dA sa [.ref (a 0), .int (zI (2)), .int (zI (z1)), .int (zI (z2)), .int (zI (z3))] (ob_W dA a L h) 1 6 (S := ob_H) (fun _ => some (.int (zI ((an_about L z1))))) (fun u => ob_p h u) (fun u => ob_W dA a L u) := by
  refine hz_of (own := RL) (cc := cL_call) (maxL := 5) (ret := some .int) rfl (by decide) rfl (Nat.le_of_ble_eq_true rfl) ?_
  intro p e s m args below meth c C X M
  refine hv_lveq (lv' := [(0, .ref (a 0)), (1, .int (zI (2))), (2, .int (zI (z1))), (3, .int (zI (z2))), (4, .int (zI (z3)))]) rfl ?_
  refine hv_iload_n C dL_call_0 1 rfl ?_
  refine hv_tabIn C dL_call_1 (by decide) (by decide) rfl (tgt := 83) (by decide) ?_
  refine hv_aload_n C dL_call_83 0 rfl ?_
  refine hv_iload_n C dL_call_84 2 rfl ?_
  refine hy_callS (As := [.ref (a 0), .int (zI (z1))]) (rest := []) (wc := ob_W dA a L h) (wr := []) C X (k_T_about l D dA sa hst a L h hJ hk0 z1 hz1 hz8) (vx_cwSW 2 C.1.2.2.2.2 (hw_SH tw_m_RL_89 tw_t_L_tryAbout tw_n_RL tw_k_L_tryAbout) rfl rfl rfl (by decide +kernel) ⟨Nat.le_of_ble_eq_true rfl, Nat.le_of_ble_eq_true rfl⟩) (List.Perm.of_eq (List.append_nil _).symm) rfl rfl (Nat.le_of_ble_eq_true rfl) dL_call_85 ⟨Nat.le_of_eq (Nat.zero_add _), Nat.le_of_eq (Nat.zero_add _)⟩ (fun u hu => ?_)
  refine hv_weq (ws' := ob_W dA a L u) (List.append_nil _) ?_
  exact hv_iret C M dL_call_88 rfl rfl u hu rfl [] (List.Perm.of_eq (List.append_nil _).symm) (Nat.le_of_eq (Nat.zero_add _)) (Nat.le_of_eq (Nat.zero_add _))

set_option maxRecDepth 100000 in
theorem k_C_about_r (l : Launch) (D : va_G) (dA : Nat → ClassId) (sa : Nat → Nat) (hst : l.stackTraces = false) (a : Nat → Nat) (L : ob_L) (h : ob_H) (hJ : ob_J L) (hk0 : ob_k h) (z1 : Int) (hz1 : -2147483648 ≤ z1 ∧ z1 < 2147483648) (z2 : Int) (z3 : Int) (haj : hal h (ox_j (lg L)) = true) : hy_Ct l yL_call (hw_W yL_call cL_call 5 (some .int)) 46 D dA sa [.ref (a 0), .int (zI (2)), .int (zI (z1)), .int (zI (z2)), .int (zI (z3))] (ob_W dA a L h) 1 6 (S := ob_H) (fun _ => some (.int (zI ((an_about L z1))))) (fun u => ob_p h u) (fun u => ob_W dA a L u) := by
  refine hz_of (own := RL) (cc := cL_call) (maxL := 5) (ret := some .int) rfl (by decide) rfl (Nat.le_of_ble_eq_true rfl) ?_
  intro p e s m args below meth c C X M
  refine hv_lveq (lv' := [(0, .ref (a 0)), (1, .int (zI (2))), (2, .int (zI (z1))), (3, .int (zI (z2))), (4, .int (zI (z3)))]) rfl ?_
  refine hv_iload_n C dL_call_0 1 rfl ?_
  refine hv_tabIn C dL_call_1 (by decide) (by decide) rfl (tgt := 83) (by decide) ?_
  refine hv_aload_n C dL_call_83 0 rfl ?_
  refine hv_iload_n C dL_call_84 2 rfl ?_
  refine hy_callS (As := [.ref (a 0), .int (zI (z1))]) (rest := []) (wc := ob_W dA a L h) (wr := []) C X (k_T_about_r l D dA sa hst a L h hJ hk0 z1 hz1 haj) (vx_cwSW 2 C.1.2.2.2.2 (hw_SH tw_m_RL_89 tw_t_L_tryAbout tw_n_RL tw_k_L_tryAbout) rfl rfl rfl (by decide +kernel) ⟨Nat.le_of_ble_eq_true rfl, Nat.le_of_ble_eq_true rfl⟩) (List.Perm.of_eq (List.append_nil _).symm) rfl rfl (Nat.le_of_ble_eq_true rfl) dL_call_85 ⟨Nat.le_of_eq (Nat.zero_add _), Nat.le_of_eq (Nat.zero_add _)⟩ (fun u hu => ?_)
  refine hv_weq (ws' := ob_W dA a L u) (List.append_nil _) ?_
  exact hv_iret C M dL_call_88 rfl rfl u hu rfl [] (List.Perm.of_eq (List.append_nil _).symm) (Nat.le_of_eq (Nat.zero_add _)) (Nat.le_of_eq (Nat.zero_add _))

set_option maxRecDepth 100000 in
theorem k_C_leaves (l : Launch) (D : va_G) (dA : Nat → ClassId) (sa : Nat → Nat) (hst : l.stackTraces = false) (a : Nat → Nat) (L : ob_L) (h : ob_H) (hJ : ob_J L) (hk0 : ob_k h) (z1 : Int) (hz1 : -2147483648 ≤ z1 ∧ z1 < 2147483648) (z2 : Int) (z3 : Int) : hy_Ct l yL_call (hw_W yL_call cL_call 5 (some .int)) 46 D dA sa [.ref (a 0), .int (zI (3)), .int (zI (z1)), .int (zI (z2)), .int (zI (z3))] (ob_W dA a L h) 1 6 (S := ob_H) (fun _ => some (.int (zI ((an_leaves L z1))))) (fun u => ob_p h u) (fun u => ob_W dA a L u) := by
  refine hz_of (own := RL) (cc := cL_call) (maxL := 5) (ret := some .int) rfl (by decide) rfl (Nat.le_of_ble_eq_true rfl) ?_
  intro p e s m args below meth c C X M
  refine hv_lveq (lv' := [(0, .ref (a 0)), (1, .int (zI (3))), (2, .int (zI (z1))), (3, .int (zI (z2))), (4, .int (zI (z3)))]) rfl ?_
  refine hv_iload_n C dL_call_0 1 rfl ?_
  refine hv_tabIn C dL_call_1 (by decide) (by decide) rfl (tgt := 89) (by decide) ?_
  refine hv_aload_n C dL_call_89 0 rfl ?_
  refine hv_iload_n C dL_call_90 2 rfl ?_
  refine hy_callS (As := [.ref (a 0), .int (zI (z1))]) (rest := []) (wc := ob_W dA a L h) (wr := []) C X (k_T_leaves l D dA sa hst a L h hJ hk0 z1 hz1) (vx_cwSW 2 C.1.2.2.2.2 (hw_SH tw_m_RL_92 tw_t_L_tryLeaves tw_n_RL tw_k_L_tryLeaves) rfl rfl rfl (by decide +kernel) ⟨Nat.le_of_ble_eq_true rfl, Nat.le_of_ble_eq_true rfl⟩) (List.Perm.of_eq (List.append_nil _).symm) rfl rfl (Nat.le_of_ble_eq_true rfl) dL_call_91 ⟨Nat.le_of_eq (Nat.zero_add _), Nat.le_of_eq (Nat.zero_add _)⟩ (fun u hu => ?_)
  refine hv_weq (ws' := ob_W dA a L u) (List.append_nil _) ?_
  exact hv_iret C M dL_call_94 rfl rfl u hu rfl [] (List.Perm.of_eq (List.append_nil _).symm) (Nat.le_of_eq (Nat.zero_add _)) (Nat.le_of_eq (Nat.zero_add _))

set_option maxRecDepth 100000 in
theorem k_C_who (l : Launch) (D : va_G) (dA : Nat → ClassId) (sa : Nat → Nat) (hst : l.stackTraces = false) (a : Nat → Nat) (L : ob_L) (h : ob_H) (hJ : ob_J L) (hk0 : ob_k h) (z1 : Int) (hz1 : -2147483648 ≤ z1 ∧ z1 < 2147483648) (z2 : Int) (hz2 : -2147483648 ≤ z2 ∧ z2 < 2147483648) (z3 : Int) : hy_Ct l yL_call (hw_W yL_call cL_call 5 (some .int)) 46 D dA sa [.ref (a 0), .int (zI (4)), .int (zI (z1)), .int (zI (z2)), .int (zI (z3))] (ob_W dA a L h) 1 6 (S := ob_H) (fun _ => some (.int (zI ((an_who L z1 z2))))) (fun u => ob_p h u) (fun u => ob_W dA a L u) := by
  refine hz_of (own := RL) (cc := cL_call) (maxL := 5) (ret := some .int) rfl (by decide) rfl (Nat.le_of_ble_eq_true rfl) ?_
  intro p e s m args below meth c C X M
  refine hv_lveq (lv' := [(0, .ref (a 0)), (1, .int (zI (4))), (2, .int (zI (z1))), (3, .int (zI (z2))), (4, .int (zI (z3)))]) rfl ?_
  refine hv_iload_n C dL_call_0 1 rfl ?_
  refine hv_tabIn C dL_call_1 (by decide) (by decide) rfl (tgt := 95) (by decide) ?_
  refine hv_aload_n C dL_call_95 0 rfl ?_
  refine hv_iload_n C dL_call_96 2 rfl ?_
  refine hv_iload_n C dL_call_97 3 rfl ?_
  refine hy_callS (As := [.ref (a 0), .int (zI (z1)), .int (zI (z2))]) (rest := []) (wc := ob_W dA a L h) (wr := []) C X (k_T_who l D dA sa hst a L h hJ hk0 z1 hz1 z2 hz2) (vx_cwSW 3 C.1.2.2.2.2 (hw_SH tw_m_RL_95 tw_t_L_tryWho tw_n_RL tw_k_L_tryWho) rfl rfl rfl (by decide +kernel) ⟨Nat.le_of_ble_eq_true rfl, Nat.le_of_ble_eq_true rfl⟩) (List.Perm.of_eq (List.append_nil _).symm) rfl rfl (Nat.le_of_ble_eq_true rfl) dL_call_98 ⟨Nat.le_of_eq (Nat.zero_add _), Nat.le_of_eq (Nat.zero_add _)⟩ (fun u hu => ?_)
  refine hv_weq (ws' := ob_W dA a L u) (List.append_nil _) ?_
  exact hv_iret C M dL_call_101 rfl rfl u hu rfl [] (List.Perm.of_eq (List.append_nil _).symm) (Nat.le_of_eq (Nat.zero_add _)) (Nat.le_of_eq (Nat.zero_add _))

set_option maxRecDepth 100000 in
theorem k_C_setting (l : Launch) (D : va_G) (dA : Nat → ClassId) (sa : Nat → Nat) (hst : l.stackTraces = false) (a : Nat → Nat) (L : ob_L) (h : ob_H) (hJ : ob_J L) (hk0 : ob_k h) (z1 : Int) (hz1 : -2147483648 ≤ z1 ∧ z1 < 2147483648) (z2 : Int) (z3 : Int) : hy_Ct l yL_call (hw_W yL_call cL_call 5 (some .int)) 46 D dA sa [.ref (a 0), .int (zI (5)), .int (zI (z1)), .int (zI (z2)), .int (zI (z3))] (ob_W dA a L h) 1 6 (S := ob_H) (fun _ => some (.int (zI ((an_setting L z1))))) (fun u => ob_p h u) (fun u => ob_W dA a L u) := by
  refine hz_of (own := RL) (cc := cL_call) (maxL := 5) (ret := some .int) rfl (by decide) rfl (Nat.le_of_ble_eq_true rfl) ?_
  intro p e s m args below meth c C X M
  refine hv_lveq (lv' := [(0, .ref (a 0)), (1, .int (zI (5))), (2, .int (zI (z1))), (3, .int (zI (z2))), (4, .int (zI (z3)))]) rfl ?_
  refine hv_iload_n C dL_call_0 1 rfl ?_
  refine hv_tabIn C dL_call_1 (by decide) (by decide) rfl (tgt := 102) (by decide) ?_
  refine hv_aload_n C dL_call_102 0 rfl ?_
  refine hv_iload_n C dL_call_103 2 rfl ?_
  refine hy_callS (As := [.ref (a 0), .int (zI (z1))]) (rest := []) (wc := ob_W dA a L h) (wr := []) C X (k_T_setting l D dA sa hst a L h hJ hk0 z1 hz1) (vx_cwSW 2 C.1.2.2.2.2 (hw_SH tw_m_RL_99 tw_t_L_trySetting tw_n_RL tw_k_L_trySetting) rfl rfl rfl (by decide +kernel) ⟨Nat.le_of_ble_eq_true rfl, Nat.le_of_ble_eq_true rfl⟩) (List.Perm.of_eq (List.append_nil _).symm) rfl rfl (Nat.le_of_ble_eq_true rfl) dL_call_104 ⟨Nat.le_of_eq (Nat.zero_add _), Nat.le_of_eq (Nat.zero_add _)⟩ (fun u hu => ?_)
  refine hv_weq (ws' := ob_W dA a L u) (List.append_nil _) ?_
  exact hv_iret C M dL_call_107 rfl rfl u hu rfl [] (List.Perm.of_eq (List.append_nil _).symm) (Nat.le_of_eq (Nat.zero_add _)) (Nat.le_of_eq (Nat.zero_add _))

set_option maxRecDepth 100000 in
theorem k_C_plant (l : Launch) (D : va_G) (dA : Nat → ClassId) (sa : Nat → Nat) (hst : l.stackTraces = false) (a : Nat → Nat) (L : ob_L) (h : ob_H) (hJ : ob_J L) (hk0 : ob_k h) (z1 : Int) (hz1 : -2147483648 ≤ z1 ∧ z1 < 2147483648) (z2 : Int) (hz2 : -2147483648 ≤ z2 ∧ z2 < 2147483648) (z3 : Int) : hy_Ct l yL_call (hw_W yL_call cL_call 5 (some .int)) 46 D dA sa [.ref (a 0), .int (zI (6)), .int (zI (z1)), .int (zI (z2)), .int (zI (z3))] (ob_W dA a L h) 3 14 (S := ob_H) (fun _ => some (.int (zI ((an_plant L z1 z2))))) (fun u => ob_p h u) (fun u => ob_W dA a (st_plant L z1 z2) u) := by
  refine hz_of (own := RL) (cc := cL_call) (maxL := 5) (ret := some .int) rfl (by decide) rfl (Nat.le_of_ble_eq_true rfl) ?_
  intro p e s m args below meth c C X M
  refine hv_lveq (lv' := [(0, .ref (a 0)), (1, .int (zI (6))), (2, .int (zI (z1))), (3, .int (zI (z2))), (4, .int (zI (z3)))]) rfl ?_
  refine hv_iload_n C dL_call_0 1 rfl ?_
  refine hv_tabIn C dL_call_1 (by decide) (by decide) rfl (tgt := 108) (by decide) ?_
  refine hv_aload_n C dL_call_108 0 rfl ?_
  refine hv_iload_n C dL_call_109 2 rfl ?_
  refine hv_iload_n C dL_call_110 3 rfl ?_
  refine hy_callS (As := [.ref (a 0), .int (zI (z1)), .int (zI (z2))]) (rest := []) (wc := ob_W dA a L h) (wr := []) C X (k_T_plant l D dA sa hst a L h hJ hk0 z1 hz1 z2 hz2) (vx_cwSW 3 C.1.2.2.2.2 (hw_SH tw_m_RL_102 tw_t_L_tryPlant tw_n_RL tw_k_L_tryPlant) rfl rfl rfl (by decide +kernel) ⟨Nat.le_of_ble_eq_true rfl, Nat.le_of_ble_eq_true rfl⟩) (List.Perm.of_eq (List.append_nil _).symm) rfl rfl (Nat.le_of_ble_eq_true rfl) dL_call_111 ⟨Nat.le_of_eq (Nat.zero_add _), Nat.le_of_eq (Nat.zero_add _)⟩ (fun u hu => ?_)
  refine hv_weq (ws' := ob_W dA a (st_plant L z1 z2) u) (List.append_nil _) ?_
  exact hv_iret C M dL_call_114 rfl rfl u hu rfl [] (List.Perm.of_eq (List.append_nil _).symm) (Nat.le_of_eq (Nat.zero_add _)) (Nat.le_of_eq (Nat.zero_add _))

set_option maxRecDepth 100000 in
theorem k_C_clip (l : Launch) (D : va_G) (dA : Nat → ClassId) (sa : Nat → Nat) (hst : l.stackTraces = false) (a : Nat → Nat) (L : ob_L) (h : ob_H) (hJ : ob_J L) (hk0 : ob_k h) (z1 : Int) (hz1 : -2147483648 ≤ z1 ∧ z1 < 2147483648) (z2 : Int) (hz2 : -2147483648 ≤ z2 ∧ z2 < 2147483648) (z3 : Int) (hz3 : -2147483648 ≤ z3 ∧ z3 < 2147483648) : hy_Ct l yL_call (hw_W yL_call cL_call 5 (some .int)) 46 D dA sa [.ref (a 0), .int (zI (7)), .int (zI (z1)), .int (zI (z2)), .int (zI (z3))] (ob_W dA a L h) 6 32 (S := ob_H) (fun _ => some (.int (zI ((an_clip L z1 z2 z3))))) (fun u => ob_p h u) (fun u => ob_W dA a (st_clip L z1 z2 z3) u) := by
  refine hz_of (own := RL) (cc := cL_call) (maxL := 5) (ret := some .int) rfl (by decide) rfl (Nat.le_of_ble_eq_true rfl) ?_
  intro p e s m args below meth c C X M
  refine hv_lveq (lv' := [(0, .ref (a 0)), (1, .int (zI (7))), (2, .int (zI (z1))), (3, .int (zI (z2))), (4, .int (zI (z3)))]) rfl ?_
  refine hv_iload_n C dL_call_0 1 rfl ?_
  refine hv_tabIn C dL_call_1 (by decide) (by decide) rfl (tgt := 115) (by decide) ?_
  refine hv_aload_n C dL_call_115 0 rfl ?_
  refine hv_iload_n C dL_call_116 2 rfl ?_
  refine hv_iload_n C dL_call_117 3 rfl ?_
  refine hv_iload C dL_call_118 4 rfl ?_
  refine hy_callS (As := [.ref (a 0), .int (zI (z1)), .int (zI (z2)), .int (zI (z3))]) (rest := []) (wc := ob_W dA a L h) (wr := []) C X (k_T_clip l D dA sa hst a L h hJ hk0 z1 hz1 z2 hz2 z3 hz3) (vx_cwSW 4 C.1.2.2.2.2 (hw_SH tw_m_RL_105 tw_t_L_tryClip tw_n_RL tw_k_L_tryClip) rfl rfl rfl (by decide +kernel) ⟨Nat.le_of_ble_eq_true rfl, Nat.le_of_ble_eq_true rfl⟩) (List.Perm.of_eq (List.append_nil _).symm) rfl rfl (Nat.le_of_ble_eq_true rfl) dL_call_120 ⟨Nat.le_of_eq (Nat.zero_add _), Nat.le_of_eq (Nat.zero_add _)⟩ (fun u hu => ?_)
  refine hv_weq (ws' := ob_W dA a (st_clip L z1 z2 z3) u) (List.append_nil _) ?_
  exact hv_iret C M dL_call_123 rfl rfl u hu rfl [] (List.Perm.of_eq (List.append_nil _).symm) (Nat.le_of_eq (Nat.zero_add _)) (Nat.le_of_eq (Nat.zero_add _))

set_option maxRecDepth 100000 in
theorem k_C_water (l : Launch) (D : va_G) (dA : Nat → ClassId) (sa : Nat → Nat) (hst : l.stackTraces = false) (a : Nat → Nat) (L : ob_L) (h : ob_H) (hJ : ob_J L) (hk0 : ob_k h) (z1 : Int) (hz1 : -2147483648 ≤ z1 ∧ z1 < 2147483648) (z2 : Int) (z3 : Int) : hy_Ct l yL_call (hw_W yL_call cL_call 5 (some .int)) 46 D dA sa [.ref (a 0), .int (zI (8)), .int (zI (z1)), .int (zI (z2)), .int (zI (z3))] (ob_W dA a L h) 4 20 (S := ob_H) (fun _ => some (.int (zI ((an_water L z1))))) (fun u => ob_p h u) (fun u => ob_W dA a (st_water L z1) u) := by
  refine hz_of (own := RL) (cc := cL_call) (maxL := 5) (ret := some .int) rfl (by decide) rfl (Nat.le_of_ble_eq_true rfl) ?_
  intro p e s m args below meth c C X M
  refine hv_lveq (lv' := [(0, .ref (a 0)), (1, .int (zI (8))), (2, .int (zI (z1))), (3, .int (zI (z2))), (4, .int (zI (z3)))]) rfl ?_
  refine hv_iload_n C dL_call_0 1 rfl ?_
  refine hv_tabIn C dL_call_1 (by decide) (by decide) rfl (tgt := 124) (by decide) ?_
  refine hv_aload_n C dL_call_124 0 rfl ?_
  refine hv_iload_n C dL_call_125 2 rfl ?_
  refine hy_callS (As := [.ref (a 0), .int (zI (z1))]) (rest := []) (wc := ob_W dA a L h) (wr := []) C X (k_T_water l D dA sa hst a L h hJ hk0 z1 hz1) (vx_cwSW 2 C.1.2.2.2.2 (hw_SH tw_m_RL_109 tw_t_L_tryWater tw_n_RL tw_k_L_tryWater) rfl rfl rfl (by decide +kernel) ⟨Nat.le_of_ble_eq_true rfl, Nat.le_of_ble_eq_true rfl⟩) (List.Perm.of_eq (List.append_nil _).symm) rfl rfl (Nat.le_of_ble_eq_true rfl) dL_call_126 ⟨Nat.le_of_eq (Nat.zero_add _), Nat.le_of_eq (Nat.zero_add _)⟩ (fun u hu => ?_)
  refine hv_weq (ws' := ob_W dA a (st_water L z1) u) (List.append_nil _) ?_
  exact hv_iret C M dL_call_129 rfl rfl u hu rfl [] (List.Perm.of_eq (List.append_nil _).symm) (Nat.le_of_eq (Nat.zero_add _)) (Nat.le_of_eq (Nat.zero_add _))

set_option maxRecDepth 100000 in
theorem k_C_wind (l : Launch) (D : va_G) (dA : Nat → ClassId) (sa : Nat → Nat) (hst : l.stackTraces = false) (a : Nat → Nat) (L : ob_L) (h : ob_H) (hJ : ob_J L) (hk0 : ob_k h) (z1 : Int) (hz1 : -2147483648 ≤ z1 ∧ z1 < 2147483648) (z2 : Int) (z3 : Int) : hy_Ct l yL_call (hw_W yL_call cL_call 5 (some .int)) 46 D dA sa [.ref (a 0), .int (zI (9)), .int (zI (z1)), .int (zI (z2)), .int (zI (z3))] (ob_W dA a L h) 3 14 (S := ob_H) (fun _ => some (.int (zI ((an_wind L z1))))) (fun u => ob_p h u) (fun u => ob_W dA a (st_wind L z1) u) := by
  refine hz_of (own := RL) (cc := cL_call) (maxL := 5) (ret := some .int) rfl (by decide) rfl (Nat.le_of_ble_eq_true rfl) ?_
  intro p e s m args below meth c C X M
  refine hv_lveq (lv' := [(0, .ref (a 0)), (1, .int (zI (9))), (2, .int (zI (z1))), (3, .int (zI (z2))), (4, .int (zI (z3)))]) rfl ?_
  refine hv_iload_n C dL_call_0 1 rfl ?_
  refine hv_tabIn C dL_call_1 (by decide) (by decide) rfl (tgt := 130) (by decide) ?_
  refine hv_aload_n C dL_call_130 0 rfl ?_
  refine hv_iload_n C dL_call_131 2 rfl ?_
  refine hy_callS (As := [.ref (a 0), .int (zI (z1))]) (rest := []) (wc := ob_W dA a L h) (wr := []) C X (k_T_wind l D dA sa hst a L h hJ hk0 z1 hz1) (vx_cwSW 2 C.1.2.2.2.2 (hw_SH tw_m_RL_112 tw_t_L_tryWind tw_n_RL tw_k_L_tryWind) rfl rfl rfl (by decide +kernel) ⟨Nat.le_of_ble_eq_true rfl, Nat.le_of_ble_eq_true rfl⟩) (List.Perm.of_eq (List.append_nil _).symm) rfl rfl (Nat.le_of_ble_eq_true rfl) dL_call_132 ⟨Nat.le_of_eq (Nat.zero_add _), Nat.le_of_eq (Nat.zero_add _)⟩ (fun u hu => ?_)
  refine hv_weq (ws' := ob_W dA a (st_wind L z1) u) (List.append_nil _) ?_
  exact hv_iret C M dL_call_135 rfl rfl u hu rfl [] (List.Perm.of_eq (List.append_nil _).symm) (Nat.le_of_eq (Nat.zero_add _)) (Nat.le_of_eq (Nat.zero_add _))

set_option maxRecDepth 100000 in
theorem k_C_lay (l : Launch) (D : va_G) (dA : Nat → ClassId) (sa : Nat → Nat) (hst : l.stackTraces = false) (a : Nat → Nat) (L : ob_L) (h : ob_H) (hJ : ob_J L) (hk0 : ob_k h) (z1 : Int) (hz1 : -2147483648 ≤ z1 ∧ z1 < 2147483648) (z2 : Int) (hz2 : -2147483648 ≤ z2 ∧ z2 < 2147483648) (z3 : Int) : hy_Ct l yL_call (hw_W yL_call cL_call 5 (some .int)) 46 D dA sa [.ref (a 0), .int (zI (10)), .int (zI (z1)), .int (zI (z2)), .int (zI (z3))] (ob_W dA a L h) 4 20 (S := ob_H) (fun _ => some (.int (zI ((an_lay L z1 z2))))) (fun u => ob_p h u) (fun u => ob_W dA a (st_lay L z1 z2) u) := by
  refine hz_of (own := RL) (cc := cL_call) (maxL := 5) (ret := some .int) rfl (by decide) rfl (Nat.le_of_ble_eq_true rfl) ?_
  intro p e s m args below meth c C X M
  refine hv_lveq (lv' := [(0, .ref (a 0)), (1, .int (zI (10))), (2, .int (zI (z1))), (3, .int (zI (z2))), (4, .int (zI (z3)))]) rfl ?_
  refine hv_iload_n C dL_call_0 1 rfl ?_
  refine hv_tabIn C dL_call_1 (by decide) (by decide) rfl (tgt := 136) (by decide) ?_
  refine hv_aload_n C dL_call_136 0 rfl ?_
  refine hv_iload_n C dL_call_137 2 rfl ?_
  refine hv_iload_n C dL_call_138 3 rfl ?_
  refine hy_callS (As := [.ref (a 0), .int (zI (z1)), .int (zI (z2))]) (rest := []) (wc := ob_W dA a L h) (wr := []) C X (k_T_lay l D dA sa hst a L h hJ hk0 z1 hz1 z2 hz2) (vx_cwSW 3 C.1.2.2.2.2 (hw_SH tw_m_RL_115 tw_t_L_tryLay tw_n_RL tw_k_L_tryLay) rfl rfl rfl (by decide +kernel) ⟨Nat.le_of_ble_eq_true rfl, Nat.le_of_ble_eq_true rfl⟩) (List.Perm.of_eq (List.append_nil _).symm) rfl rfl (Nat.le_of_ble_eq_true rfl) dL_call_139 ⟨Nat.le_of_eq (Nat.zero_add _), Nat.le_of_eq (Nat.zero_add _)⟩ (fun u hu => ?_)
  refine hv_weq (ws' := ob_W dA a (st_lay L z1 z2) u) (List.append_nil _) ?_
  exact hv_iret C M dL_call_142 rfl rfl u hu rfl [] (List.Perm.of_eq (List.append_nil _).symm) (Nat.le_of_eq (Nat.zero_add _)) (Nat.le_of_eq (Nat.zero_add _))

set_option maxRecDepth 100000 in
theorem k_C_undo_t (l : Launch) (D : va_G) (dA : Nat → ClassId) (sa : Nat → Nat) (hst : l.stackTraces = false) (a : Nat → Nat) (L : ob_L) (h : ob_H) (hJ : ob_J L) (hk0 : ob_k h) (z1 : Int) (z2 : Int) (z3 : Int) (h0 : 0 < lsz L) : hy_Ct l yL_call (hw_W yL_call cL_call 5 (some .int)) 46 D dA sa [.ref (a 0), .int (zI (11)), .int (zI (z1)), .int (zI (z2)), .int (zI (z3))] (ob_W dA a L h) 1 6 (S := ob_H) (fun _ => some (.int (zI ((an_undo L))))) (fun u => ob_p h u) (fun u => ob_W dA a (st_undo L) u) := by
  refine hz_of (own := RL) (cc := cL_call) (maxL := 5) (ret := some .int) rfl (by decide) rfl (Nat.le_of_ble_eq_true rfl) ?_
  intro p e s m args below meth c C X M
  refine hv_lveq (lv' := [(0, .ref (a 0)), (1, .int (zI (11))), (2, .int (zI (z1))), (3, .int (zI (z2))), (4, .int (zI (z3)))]) rfl ?_
  refine hv_iload_n C dL_call_0 1 rfl ?_
  refine hv_tabIn C dL_call_1 (by decide) (by decide) rfl (tgt := 143) (by decide) ?_
  refine hv_aload_n C dL_call_143 0 rfl ?_
  refine hy_callS (As := [.ref (a 0)]) (rest := []) (wc := ob_W dA a L h) (wr := []) C X (k_T_undo_t l D dA sa hst a L h hJ hk0 h0) (vx_cwSW 1 C.1.2.2.2.2 (hw_SH tw_m_RL_118 tw_t_L_tryUndo tw_n_RL tw_k_L_tryUndo) rfl rfl rfl (by decide +kernel) ⟨Nat.le_of_ble_eq_true rfl, Nat.le_of_ble_eq_true rfl⟩) (List.Perm.of_eq (List.append_nil _).symm) rfl rfl (Nat.le_of_ble_eq_true rfl) dL_call_144 ⟨Nat.le_of_eq (Nat.zero_add _), Nat.le_of_eq (Nat.zero_add _)⟩ (fun u hu => ?_)
  refine hv_weq (ws' := ob_W dA a (st_undo L) u) (List.append_nil _) ?_
  exact hv_iret C M dL_call_147 rfl rfl u hu rfl [] (List.Perm.of_eq (List.append_nil _).symm) (Nat.le_of_eq (Nat.zero_add _)) (Nat.le_of_eq (Nat.zero_add _))

set_option maxRecDepth 100000 in
theorem k_C_undo_f (l : Launch) (D : va_G) (dA : Nat → ClassId) (sa : Nat → Nat) (hst : l.stackTraces = false) (a : Nat → Nat) (L : ob_L) (h : ob_H) (hJ : ob_J L) (hk0 : ob_k h) (z1 : Int) (z2 : Int) (z3 : Int) (h0 : lsz L = 0) : hy_Ct l yL_call (hw_W yL_call cL_call 5 (some .int)) 46 D dA sa [.ref (a 0), .int (zI (11)), .int (zI (z1)), .int (zI (z2)), .int (zI (z3))] (ob_W dA a L h) 1 6 (S := ob_H) (fun _ => some (.int (zI ((an_undo L))))) (fun u => ob_p h u) (fun u => ob_W dA a (st_undo L) u) := by
  refine hz_of (own := RL) (cc := cL_call) (maxL := 5) (ret := some .int) rfl (by decide) rfl (Nat.le_of_ble_eq_true rfl) ?_
  intro p e s m args below meth c C X M
  refine hv_lveq (lv' := [(0, .ref (a 0)), (1, .int (zI (11))), (2, .int (zI (z1))), (3, .int (zI (z2))), (4, .int (zI (z3)))]) rfl ?_
  refine hv_iload_n C dL_call_0 1 rfl ?_
  refine hv_tabIn C dL_call_1 (by decide) (by decide) rfl (tgt := 143) (by decide) ?_
  refine hv_aload_n C dL_call_143 0 rfl ?_
  refine hy_callS (As := [.ref (a 0)]) (rest := []) (wc := ob_W dA a L h) (wr := []) C X (k_T_undo_f l D dA sa hst a L h hJ hk0 h0) (vx_cwSW 1 C.1.2.2.2.2 (hw_SH tw_m_RL_118 tw_t_L_tryUndo tw_n_RL tw_k_L_tryUndo) rfl rfl rfl (by decide +kernel) ⟨Nat.le_of_ble_eq_true rfl, Nat.le_of_ble_eq_true rfl⟩) (List.Perm.of_eq (List.append_nil _).symm) rfl rfl (Nat.le_of_ble_eq_true rfl) dL_call_144 ⟨Nat.le_of_eq (Nat.zero_add _), Nat.le_of_eq (Nat.zero_add _)⟩ (fun u hu => ?_)
  refine hv_weq (ws' := ob_W dA a (st_undo L) u) (List.append_nil _) ?_
  exact hv_iret C M dL_call_147 rfl rfl u hu rfl [] (List.Perm.of_eq (List.append_nil _).symm) (Nat.le_of_eq (Nat.zero_add _)) (Nat.le_of_eq (Nat.zero_add _))

set_option maxRecDepth 100000 in
theorem k_C_goes_x (l : Launch) (D : va_G) (dA : Nat → ClassId) (sa : Nat → Nat) (hst : l.stackTraces = false) (a : Nat → Nat) (L : ob_L) (h : ob_H) (hJ : ob_J L) (hk0 : ob_k h) (z1 : Int) (hz1 : -2147483648 ≤ z1 ∧ z1 < 2147483648) (z2 : Int) (hz2 : -2147483648 ≤ z2 ∧ z2 < 2147483648) (z3 : Int) (E0 : String) (hx9 : xc_go z1 z2 = some E0) : hy_Ct l yL_call (hw_W yL_call cL_call 5 (some .int)) 46 D dA sa [.ref (a 0), .int (zI (12)), .int (zI (z1)), .int (zI (z2)), .int (zI (z3))] (ob_W dA a L h) 3 4146 (S := ob_H) (fun _ => some (.int (zI (ob_er E0)))) (fun u => ob_p h u) (fun u => ob_W dA a L u) := by
  refine hz_of (own := RL) (cc := cL_call) (maxL := 5) (ret := some .int) rfl (by decide) rfl (Nat.le_of_ble_eq_true rfl) ?_
  intro p e s m args below meth c C X M
  refine hv_lveq (lv' := [(0, .ref (a 0)), (1, .int (zI (12))), (2, .int (zI (z1))), (3, .int (zI (z2))), (4, .int (zI (z3)))]) rfl ?_
  refine hv_iload_n C dL_call_0 1 rfl ?_
  refine hv_tabIn C dL_call_1 (by decide) (by decide) rfl (tgt := 148) (by decide) ?_
  refine hv_aload_n C dL_call_148 0 rfl ?_
  refine hv_iload_n C dL_call_149 2 rfl ?_
  refine hv_iload_n C dL_call_150 3 rfl ?_
  refine hy_callS (As := [.ref (a 0), .int (zI (z1)), .int (zI (z2))]) (rest := []) (wc := ob_W dA a L h) (wr := []) C X (k_T_goes_x l D dA sa hst a L h hJ hk0 z1 hz1 z2 hz2 E0 hx9) (vx_cwSW 3 C.1.2.2.2.2 (hw_SH tw_m_RL_121 tw_t_L_tryGoes tw_n_RL tw_k_L_tryGoes) rfl rfl rfl (by decide +kernel) ⟨Nat.le_of_ble_eq_true rfl, Nat.le_of_ble_eq_true rfl⟩) (List.Perm.of_eq (List.append_nil _).symm) rfl rfl (Nat.le_of_ble_eq_true rfl) dL_call_151 ⟨Nat.le_of_eq (Nat.zero_add _), Nat.le_of_eq (Nat.zero_add _)⟩ (fun u hu => ?_)
  refine hv_weq (ws' := ob_W dA a L u) (List.append_nil _) ?_
  exact hv_iret C M dL_call_154 rfl rfl u hu rfl [] (List.Perm.of_eq (List.append_nil _).symm) (Nat.le_of_eq (Nat.zero_add _)) (Nat.le_of_eq (Nat.zero_add _))

set_option maxRecDepth 100000 in
theorem k_C_goes (l : Launch) (D : va_G) (dA : Nat → ClassId) (sa : Nat → Nat) (hst : l.stackTraces = false) (a : Nat → Nat) (L : ob_L) (h : ob_H) (hJ : ob_J L) (hk0 : ob_k h) (z1 : Int) (hz1 : -2147483648 ≤ z1 ∧ z1 < 2147483648) (z2 : Int) (hz2 : -2147483648 ≤ z2 ∧ z2 < 2147483648) (z3 : Int) (haj : hal h (ox_j (lg L)) = true) : hy_Ct l yL_call (hw_W yL_call cL_call 5 (some .int)) 46 D dA sa [.ref (a 0), .int (zI (12)), .int (zI (z1)), .int (zI (z2)), .int (zI (z3))] (ob_W dA a L h) 1 6 (S := ob_H) (fun _ => some (.int (zI ((an_goes L z1 z2))))) (fun u => ob_p h u) (fun u => ob_W dA a L u) := by
  refine hz_of (own := RL) (cc := cL_call) (maxL := 5) (ret := some .int) rfl (by decide) rfl (Nat.le_of_ble_eq_true rfl) ?_
  intro p e s m args below meth c C X M
  refine hv_lveq (lv' := [(0, .ref (a 0)), (1, .int (zI (12))), (2, .int (zI (z1))), (3, .int (zI (z2))), (4, .int (zI (z3)))]) rfl ?_
  refine hv_iload_n C dL_call_0 1 rfl ?_
  refine hv_tabIn C dL_call_1 (by decide) (by decide) rfl (tgt := 148) (by decide) ?_
  refine hv_aload_n C dL_call_148 0 rfl ?_
  refine hv_iload_n C dL_call_149 2 rfl ?_
  refine hv_iload_n C dL_call_150 3 rfl ?_
  refine hy_callS (As := [.ref (a 0), .int (zI (z1)), .int (zI (z2))]) (rest := []) (wc := ob_W dA a L h) (wr := []) C X (k_T_goes l D dA sa hst a L h hJ hk0 z1 hz1 z2 hz2 haj) (vx_cwSW 3 C.1.2.2.2.2 (hw_SH tw_m_RL_121 tw_t_L_tryGoes tw_n_RL tw_k_L_tryGoes) rfl rfl rfl (by decide +kernel) ⟨Nat.le_of_ble_eq_true rfl, Nat.le_of_ble_eq_true rfl⟩) (List.Perm.of_eq (List.append_nil _).symm) rfl rfl (Nat.le_of_ble_eq_true rfl) dL_call_151 ⟨Nat.le_of_eq (Nat.zero_add _), Nat.le_of_eq (Nat.zero_add _)⟩ (fun u hu => ?_)
  refine hv_weq (ws' := ob_W dA a L u) (List.append_nil _) ?_
  exact hv_iret C M dL_call_154 rfl rfl u hu rfl [] (List.Perm.of_eq (List.append_nil _).symm) (Nat.le_of_eq (Nat.zero_add _)) (Nat.le_of_eq (Nat.zero_add _))

set_option maxRecDepth 100000 in
theorem k_C_keep (l : Launch) (D : va_G) (dA : Nat → ClassId) (sa : Nat → Nat) (hst : l.stackTraces = false) (a : Nat → Nat) (L : ob_L) (h : ob_H) (hJ : ob_J L) (hk0 : ob_k h) (z1 : Int) (hz1 : -2147483648 ≤ z1 ∧ z1 < 2147483648) (z2 : Int) (z3 : Int) : hy_Ct l yL_call (hw_W yL_call cL_call 5 (some .int)) 46 D dA sa [.ref (a 0), .int (zI (13)), .int (zI (z1)), .int (zI (z2)), .int (zI (z3))] (ob_W dA a L h) 3 14 (S := ob_H) (fun _ => some (.int (zI ((an_keep L z1))))) (fun u => ob_p h u) (fun u => ob_W dA a (st_keep L z1) u) := by
  refine hz_of (own := RL) (cc := cL_call) (maxL := 5) (ret := some .int) rfl (by decide) rfl (Nat.le_of_ble_eq_true rfl) ?_
  intro p e s m args below meth c C X M
  refine hv_lveq (lv' := [(0, .ref (a 0)), (1, .int (zI (13))), (2, .int (zI (z1))), (3, .int (zI (z2))), (4, .int (zI (z3)))]) rfl ?_
  refine hv_iload_n C dL_call_0 1 rfl ?_
  refine hv_tabIn C dL_call_1 (by decide) (by decide) rfl (tgt := 155) (by decide) ?_
  refine hv_aload_n C dL_call_155 0 rfl ?_
  refine hv_iload_n C dL_call_156 2 rfl ?_
  refine hy_callS (As := [.ref (a 0), .int (zI (z1))]) (rest := []) (wc := ob_W dA a L h) (wr := []) C X (k_T_keep l D dA sa hst a L h hJ hk0 z1 hz1) (vx_cwSW 2 C.1.2.2.2.2 (hw_SH tw_m_RL_124 tw_t_L_tryKeep tw_n_RL tw_k_L_tryKeep) rfl rfl rfl (by decide +kernel) ⟨Nat.le_of_ble_eq_true rfl, Nat.le_of_ble_eq_true rfl⟩) (List.Perm.of_eq (List.append_nil _).symm) rfl rfl (Nat.le_of_ble_eq_true rfl) dL_call_157 ⟨Nat.le_of_eq (Nat.zero_add _), Nat.le_of_eq (Nat.zero_add _)⟩ (fun u hu => ?_)
  refine hv_weq (ws' := ob_W dA a (st_keep L z1) u) (List.append_nil _) ?_
  exact hv_iret C M dL_call_160 rfl rfl u hu rfl [] (List.Perm.of_eq (List.append_nil _).symm) (Nat.le_of_eq (Nat.zero_add _)) (Nat.le_of_eq (Nat.zero_add _))

set_option maxRecDepth 100000 in
theorem k_C_back (l : Launch) (D : va_G) (dA : Nat → ClassId) (sa : Nat → Nat) (hst : l.stackTraces = false) (a : Nat → Nat) (L : ob_L) (h : ob_H) (hJ : ob_J L) (hk0 : ob_k h) (z1 : Int) (hz1 : -2147483648 ≤ z1 ∧ z1 < 2147483648) (z2 : Int) (z3 : Int) : hy_Ct l yL_call (hw_W yL_call cL_call 5 (some .int)) 46 D dA sa [.ref (a 0), .int (zI (14)), .int (zI (z1)), .int (zI (z2)), .int (zI (z3))] (ob_W dA a L h) 1 6 (S := ob_H) (fun _ => some (.int (zI ((an_back L z1))))) (fun u => ob_p h u) (fun u => ob_W dA a (st_back L z1) u) := by
  refine hz_of (own := RL) (cc := cL_call) (maxL := 5) (ret := some .int) rfl (by decide) rfl (Nat.le_of_ble_eq_true rfl) ?_
  intro p e s m args below meth c C X M
  refine hv_lveq (lv' := [(0, .ref (a 0)), (1, .int (zI (14))), (2, .int (zI (z1))), (3, .int (zI (z2))), (4, .int (zI (z3)))]) rfl ?_
  refine hv_iload_n C dL_call_0 1 rfl ?_
  refine hv_tabOut C dL_call_1 (by decide) (tgt := 161) (by decide) ?_
  refine hv_aload_n C dL_call_161 0 rfl ?_
  refine hv_iload_n C dL_call_162 2 rfl ?_
  refine hy_callS (As := [.ref (a 0), .int (zI (z1))]) (rest := []) (wc := ob_W dA a L h) (wr := []) C X (k_T_back l D dA sa hst a L h hJ hk0 z1 hz1) (vx_cwSW 2 C.1.2.2.2.2 (hw_SH tw_m_RL_127 tw_t_L_tryBack tw_n_RL tw_k_L_tryBack) rfl rfl rfl (by decide +kernel) ⟨Nat.le_of_ble_eq_true rfl, Nat.le_of_ble_eq_true rfl⟩) (List.Perm.of_eq (List.append_nil _).symm) rfl rfl (Nat.le_of_ble_eq_true rfl) dL_call_163 ⟨Nat.le_of_eq (Nat.zero_add _), Nat.le_of_eq (Nat.zero_add _)⟩ (fun u hu => ?_)
  refine hv_weq (ws' := ob_W dA a (st_back L z1) u) (List.append_nil _) ?_
  exact hv_iret C M dL_call_166 rfl rfl u hu rfl [] (List.Perm.of_eq (List.append_nil _).symm) (Nat.le_of_eq (Nat.zero_add _)) (Nat.le_of_eq (Nat.zero_add _))

theorem k_C_undo (l : Launch) (D : va_G) (dA : Nat → ClassId) (sa : Nat → Nat) (hst : l.stackTraces = false) (a : Nat → Nat) (L : ob_L) (h : ob_H) (hJ : ob_J L) (hk0 : ob_k h) (z1 z2 z3 : Int) : hy_Ct l yL_call (hw_W yL_call cL_call 5 (some .int)) 46 D dA sa [.ref (a 0), .int (zI (11)), .int (zI (z1)), .int (zI (z2)), .int (zI (z3))] (ob_W dA a L h) 1 6 (S := ob_H) (fun _ => some (.int (zI (an_undo L)))) (fun u => ob_p h u) (fun u => ob_W dA a (st_undo L) u) := by
  rcases Nat.eq_zero_or_pos (lsz L) with h0 | h0
  · exact k_C_undo_f l D dA sa hst a L h hJ hk0 z1 z2 z3 h0
  · exact k_C_undo_t l D dA sa hst a L h hJ hk0 z1 z2 z3 h0

theorem k_R_about (l : Launch) (D : va_G) (dA : Nat → ClassId) (sa : Nat → Nat) (hst : l.stackTraces = false) (a : Nat → Nat) (L : ob_L) (h : ob_H) (hJ : ob_J L) (hk0 : ob_k h) (z1 : Int) (hz1 : -2147483648 ≤ z1 ∧ z1 < 2147483648) (z2 : Int) (z3 : Int) (E0 : String) (hx9 : xc_abo z1 = some E0) : hy_Ct l yL_call (hw_W yL_call cL_call 5 (some .int)) 46 D dA sa [.ref (a 0), .int (zI (2)), .int (zI (z1)), .int (zI (z2)), .int (zI (z3))] (ob_W dA a L h) 1 6 (S := ob_H) (fun _ => some (.int (zI (ob_er E0)))) (fun u => ob_p h u) (fun u => ob_W dA a L u) := by
  have h1 := k_C_about l D dA sa hst a L h hJ hk0 z1 hz1 z2 z3 (by unfold xc_abo at hx9; intro q; rw [q, if_pos (by omega)] at hx9; cases hx9)
  rw [show (an_about L z1) = ob_er E0 from ob_an_s hx9] at h1
  exact h1

theorem k_R_leaves (l : Launch) (D : va_G) (dA : Nat → ClassId) (sa : Nat → Nat) (hst : l.stackTraces = false) (a : Nat → Nat) (L : ob_L) (h : ob_H) (hJ : ob_J L) (hk0 : ob_k h) (z1 : Int) (hz1 : -2147483648 ≤ z1 ∧ z1 < 2147483648) (z2 : Int) (z3 : Int) (E0 : String) (hx9 : xc_stem (lg L) z1 = some E0) : hy_Ct l yL_call (hw_W yL_call cL_call 5 (some .int)) 46 D dA sa [.ref (a 0), .int (zI (3)), .int (zI (z1)), .int (zI (z2)), .int (zI (z3))] (ob_W dA a L h) 1 6 (S := ob_H) (fun _ => some (.int (zI (ob_er E0)))) (fun u => ob_p h u) (fun u => ob_W dA a L u) := by
  have h1 := k_C_leaves l D dA sa hst a L h hJ hk0 z1 hz1 z2 z3
  rw [show (an_leaves L z1) = ob_er E0 from ob_an_s hx9] at h1
  exact h1

theorem k_R_who (l : Launch) (D : va_G) (dA : Nat → ClassId) (sa : Nat → Nat) (hst : l.stackTraces = false) (a : Nat → Nat) (L : ob_L) (h : ob_H) (hJ : ob_J L) (hk0 : ob_k h) (z1 : Int) (hz1 : -2147483648 ≤ z1 ∧ z1 < 2147483648) (z2 : Int) (hz2 : -2147483648 ≤ z2 ∧ z2 < 2147483648) (z3 : Int) (E0 : String) (hx9 : xc_gar z1 z2 = some E0) : hy_Ct l yL_call (hw_W yL_call cL_call 5 (some .int)) 46 D dA sa [.ref (a 0), .int (zI (4)), .int (zI (z1)), .int (zI (z2)), .int (zI (z3))] (ob_W dA a L h) 1 6 (S := ob_H) (fun _ => some (.int (zI (ob_er E0)))) (fun u => ob_p h u) (fun u => ob_W dA a L u) := by
  have h1 := k_C_who l D dA sa hst a L h hJ hk0 z1 hz1 z2 hz2 z3
  rw [show (an_who L z1 z2) = ob_er E0 from ob_an_s hx9] at h1
  exact h1

theorem k_R_setting (l : Launch) (D : va_G) (dA : Nat → ClassId) (sa : Nat → Nat) (hst : l.stackTraces = false) (a : Nat → Nat) (L : ob_L) (h : ob_H) (hJ : ob_J L) (hk0 : ob_k h) (z1 : Int) (hz1 : -2147483648 ≤ z1 ∧ z1 < 2147483648) (z2 : Int) (z3 : Int) (E0 : String) (hx9 : xc_set z1 = some E0) : hy_Ct l yL_call (hw_W yL_call cL_call 5 (some .int)) 46 D dA sa [.ref (a 0), .int (zI (5)), .int (zI (z1)), .int (zI (z2)), .int (zI (z3))] (ob_W dA a L h) 1 6 (S := ob_H) (fun _ => some (.int (zI (ob_er E0)))) (fun u => ob_p h u) (fun u => ob_W dA a L u) := by
  have h1 := k_C_setting l D dA sa hst a L h hJ hk0 z1 hz1 z2 z3
  rw [show (an_setting L z1) = ob_er E0 from ob_an_s hx9] at h1
  exact h1

theorem k_R_plant (l : Launch) (D : va_G) (dA : Nat → ClassId) (sa : Nat → Nat) (hst : l.stackTraces = false) (a : Nat → Nat) (L : ob_L) (h : ob_H) (hJ : ob_J L) (hk0 : ob_k h) (z1 : Int) (hz1 : -2147483648 ≤ z1 ∧ z1 < 2147483648) (z2 : Int) (hz2 : -2147483648 ≤ z2 ∧ z2 < 2147483648) (z3 : Int) (E0 : String) (hx9 : xc_plant z1 z2 = some E0) : hy_Ct l yL_call (hw_W yL_call cL_call 5 (some .int)) 46 D dA sa [.ref (a 0), .int (zI (6)), .int (zI (z1)), .int (zI (z2)), .int (zI (z3))] (ob_W dA a L h) 3 14 (S := ob_H) (fun _ => some (.int (zI (ob_er E0)))) (fun u => ob_p h u) (fun u => ob_W dA a L u) := by
  have h1 := k_C_plant l D dA sa hst a L h hJ hk0 z1 hz1 z2 hz2 z3
  rw [show (an_plant L z1 z2) = ob_er E0 from ob_an_s hx9] at h1
  rw [show (st_plant L z1 z2) = L from ob_st_s hx9] at h1
  exact h1

theorem k_R_clip (l : Launch) (D : va_G) (dA : Nat → ClassId) (sa : Nat → Nat) (hst : l.stackTraces = false) (a : Nat → Nat) (L : ob_L) (h : ob_H) (hJ : ob_J L) (hk0 : ob_k h) (z1 : Int) (hz1 : -2147483648 ≤ z1 ∧ z1 < 2147483648) (z2 : Int) (hz2 : -2147483648 ≤ z2 ∧ z2 < 2147483648) (z3 : Int) (hz3 : -2147483648 ≤ z3 ∧ z3 < 2147483648) (E0 : String) (hx9 : xc_clip (lg L) z1 z2 z3 = some E0) : hy_Ct l yL_call (hw_W yL_call cL_call 5 (some .int)) 46 D dA sa [.ref (a 0), .int (zI (7)), .int (zI (z1)), .int (zI (z2)), .int (zI (z3))] (ob_W dA a L h) 6 32 (S := ob_H) (fun _ => some (.int (zI (ob_er E0)))) (fun u => ob_p h u) (fun u => ob_W dA a L u) := by
  have h1 := k_C_clip l D dA sa hst a L h hJ hk0 z1 hz1 z2 hz2 z3 hz3
  rw [show (an_clip L z1 z2 z3) = ob_er E0 from ob_an_s hx9] at h1
  rw [show (st_clip L z1 z2 z3) = L from ob_st_s hx9] at h1
  exact h1

theorem k_R_water (l : Launch) (D : va_G) (dA : Nat → ClassId) (sa : Nat → Nat) (hst : l.stackTraces = false) (a : Nat → Nat) (L : ob_L) (h : ob_H) (hJ : ob_J L) (hk0 : ob_k h) (z1 : Int) (hz1 : -2147483648 ≤ z1 ∧ z1 < 2147483648) (z2 : Int) (z3 : Int) (E0 : String) (hx9 : xc_wat (lg L) z1 = some E0) : hy_Ct l yL_call (hw_W yL_call cL_call 5 (some .int)) 46 D dA sa [.ref (a 0), .int (zI (8)), .int (zI (z1)), .int (zI (z2)), .int (zI (z3))] (ob_W dA a L h) 4 20 (S := ob_H) (fun _ => some (.int (zI (ob_er E0)))) (fun u => ob_p h u) (fun u => ob_W dA a L u) := by
  have h1 := k_C_water l D dA sa hst a L h hJ hk0 z1 hz1 z2 z3
  rw [show (an_water L z1) = ob_er E0 from ob_an_s hx9] at h1
  rw [show (st_water L z1) = L from ob_st_s hx9] at h1
  exact h1

theorem k_R_wind (l : Launch) (D : va_G) (dA : Nat → ClassId) (sa : Nat → Nat) (hst : l.stackTraces = false) (a : Nat → Nat) (L : ob_L) (h : ob_H) (hJ : ob_J L) (hk0 : ob_k h) (z1 : Int) (hz1 : -2147483648 ≤ z1 ∧ z1 < 2147483648) (z2 : Int) (z3 : Int) (E0 : String) (hx9 : xc_wind z1 = some E0) : hy_Ct l yL_call (hw_W yL_call cL_call 5 (some .int)) 46 D dA sa [.ref (a 0), .int (zI (9)), .int (zI (z1)), .int (zI (z2)), .int (zI (z3))] (ob_W dA a L h) 3 14 (S := ob_H) (fun _ => some (.int (zI (ob_er E0)))) (fun u => ob_p h u) (fun u => ob_W dA a L u) := by
  have h1 := k_C_wind l D dA sa hst a L h hJ hk0 z1 hz1 z2 z3
  rw [show (an_wind L z1) = ob_er E0 from ob_an_s hx9] at h1
  rw [show (st_wind L z1) = L from ob_st_s hx9] at h1
  exact h1

theorem k_R_lay (l : Launch) (D : va_G) (dA : Nat → ClassId) (sa : Nat → Nat) (hst : l.stackTraces = false) (a : Nat → Nat) (L : ob_L) (h : ob_H) (hJ : ob_J L) (hk0 : ob_k h) (z1 : Int) (hz1 : -2147483648 ≤ z1 ∧ z1 < 2147483648) (z2 : Int) (hz2 : -2147483648 ≤ z2 ∧ z2 < 2147483648) (z3 : Int) (E0 : String) (hx9 : xc_sett z1 z2 = some E0) : hy_Ct l yL_call (hw_W yL_call cL_call 5 (some .int)) 46 D dA sa [.ref (a 0), .int (zI (10)), .int (zI (z1)), .int (zI (z2)), .int (zI (z3))] (ob_W dA a L h) 4 20 (S := ob_H) (fun _ => some (.int (zI (ob_er E0)))) (fun u => ob_p h u) (fun u => ob_W dA a L u) := by
  have h1 := k_C_lay l D dA sa hst a L h hJ hk0 z1 hz1 z2 hz2 z3
  rw [show (an_lay L z1 z2) = ob_er E0 from ob_an_s hx9] at h1
  rw [show (st_lay L z1 z2) = L from ob_st_s hx9] at h1
  exact h1

theorem k_R_keep (l : Launch) (D : va_G) (dA : Nat → ClassId) (sa : Nat → Nat) (hst : l.stackTraces = false) (a : Nat → Nat) (L : ob_L) (h : ob_H) (hJ : ob_J L) (hk0 : ob_k h) (z1 : Int) (hz1 : -2147483648 ≤ z1 ∧ z1 < 2147483648) (z2 : Int) (z3 : Int) (E0 : String) (hx9 : xc_slot z1 = some E0) : hy_Ct l yL_call (hw_W yL_call cL_call 5 (some .int)) 46 D dA sa [.ref (a 0), .int (zI (13)), .int (zI (z1)), .int (zI (z2)), .int (zI (z3))] (ob_W dA a L h) 3 14 (S := ob_H) (fun _ => some (.int (zI (ob_er E0)))) (fun u => ob_p h u) (fun u => ob_W dA a L u) := by
  have h1 := k_C_keep l D dA sa hst a L h hJ hk0 z1 hz1 z2 z3
  rw [show (an_keep L z1) = ob_er E0 from ob_an_s hx9] at h1
  rw [show (st_keep L z1) = L from ob_st_s hx9] at h1
  exact h1

theorem k_R_back (l : Launch) (D : va_G) (dA : Nat → ClassId) (sa : Nat → Nat) (hst : l.stackTraces = false) (a : Nat → Nat) (L : ob_L) (h : ob_H) (hJ : ob_J L) (hk0 : ob_k h) (z1 : Int) (hz1 : -2147483648 ≤ z1 ∧ z1 < 2147483648) (z2 : Int) (z3 : Int) (E0 : String) (hx9 : xc_rest (lsal L) z1 = some E0) : hy_Ct l yL_call (hw_W yL_call cL_call 5 (some .int)) 46 D dA sa [.ref (a 0), .int (zI (14)), .int (zI (z1)), .int (zI (z2)), .int (zI (z3))] (ob_W dA a L h) 1 6 (S := ob_H) (fun _ => some (.int (zI (ob_er E0)))) (fun u => ob_p h u) (fun u => ob_W dA a L u) := by
  have h1 := k_C_back l D dA sa hst a L h hJ hk0 z1 hz1 z2 z3
  rw [show (an_back L z1) = ob_er E0 from ob_an_s hx9] at h1
  rw [show (st_back L z1) = L from ob_st_s hx9] at h1
  exact h1

theorem k_R_sim (l : Launch) (D : va_G) (dA : Nat → ClassId) (sa : Nat → Nat) (hst : l.stackTraces = false) (a : Nat → Nat) (L : ob_L) (h : ob_H) (hJ : ob_J L) (hk0 : ob_k h) (z1 : Int) (hz1 : -2147483648 ≤ z1 ∧ z1 < 2147483648) (x9 : Int64) (E0 : String) (hx9 : xc_sim z1 = some E0) : hy_Ct l yL_doSimulate (hw_H yL_doSimulate cL_doSimulate 5 (some .int) [(0, 6, 7, 16)]) 45 D dA sa [.ref (a 0), .long (x9), .int (zI (z1))] (ob_W dA a L h) 1 6 (S := ob_H) (fun _ => some (.int (zI (ob_er E0)))) (fun u => ob_p h u) (fun u => ob_W dA a L u) := by
  have h1 := k_T_sim l D dA sa hst a L h hJ hk0 z1 hz1 x9
  rw [show (an_sim L z1 x9) = ob_er E0 from ob_an_s hx9] at h1
  exact h1

set_option maxRecDepth 100000 in
theorem k_L_thrown_n (l : Launch) (D : va_G) (dA : Nat → ClassId) (z : Int) (hz : -1000 ≤ z ∧ z < 2147483648) : hv_Ct l yL_thrown (hw_W yL_thrown cL_thrown 1 (some .boolean)) 46 D dA [.int (zI (z))] [] 0 0 (S := Unit) (fun _ => some (.int (zI (0)))) (fun _ => True) (fun _ => []) := by
  refine hv_of (cc := cL_thrown) (maxL := 1) (ret := (some .boolean)) (own := RL) rfl (by decide) rfl (Nat.le_of_ble_eq_true rfl) ?_
  intro p e s m args below meth c C M
  refine hv_lveq (lv' := [(0, .int (zI (z)))]) rfl ?_
  refine hv_iload_n C dL_thrown_0 0 rfl ?_
  refine hv_ldc C dL_thrown_1 (hw_c tw_o_RL_15) ?_
  refine hv_topi (y := zI (-9999001)) (by decide +kernel) ?_
  refine hv_icmp_eq C dL_thrown_3 (tgt := 18) (by decide) (zI_eq (by omega)) (fun hc => ?_) (fun hc => ?_)
  · exact absurd hc (by omega)
  refine hv_iload_n C dL_thrown_6 0 rfl ?_
  refine hv_ldc C dL_thrown_7 (hw_c tw_o_RL_18) ?_
  refine hv_topi (y := zI (-9999002)) (by decide +kernel) ?_
  refine hv_icmp_eq C dL_thrown_9 (tgt := 18) (by decide) (zI_eq (by omega)) (fun hc => ?_) (fun hc => ?_)
  · exact absurd hc (by omega)
  refine hv_iload_n C dL_thrown_12 0 rfl ?_
  refine hv_ldc C dL_thrown_13 (hw_c tw_o_RL_33) ?_
  refine hv_topi (y := zI (-9999003)) (by decide +kernel) ?_
  refine hv_icmp_ne C dL_thrown_15 (tgt := 22) (by decide) (zI_ne (by omega)) (fun hc => ?_) (fun hc => ?_)
  · refine hv_iconst C dL_thrown_22 (v := zI (0)) rfl ?_
    exact hv_iret C M dL_thrown_23 rfl zB_n2 () trivial rfl [] (List.Perm.of_eq (List.append_nil _).symm) (Nat.le_refl _) (Nat.le_refl _)
  · exact absurd hc (by omega)
