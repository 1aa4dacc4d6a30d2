/-! what is refused -/
theorem rq_1 {g : Nat → Int} {a b k : Int} (h : ¬ (0 ≤ a ∧ a < g 0)) : xc_req g a b k = some hx_IOE := xc_or_s (if_neg h)
theorem rq_2 {g : Nat → Int} {a b k : Int} (h1 : 0 ≤ a ∧ a < g 0) (h : ¬ (0 ≤ b ∧ b < g 0)) : xc_req g a b k = some hx_IOE := (xc_or_n (if_pos h1)).trans (xc_or_s (if_neg h))
theorem rq_3 {g : Nat → Int} {a b k : Int} (h1 : 0 ≤ a ∧ a < g 0) (h2 : 0 ≤ b ∧ b < g 0) (h : ¬ (1 ≤ k ∧ k ≤ 3 ∧ a ≤ b ∧ b - a < g 5)) : xc_req g a b k = some hx_IAE := (xc_or_n (if_pos h1)).trans ((xc_or_n (if_pos h2)).trans (if_neg h))
theorem rq_i {g : Nat → Int} {a b k v : Int} (h : 0 ≤ a ∧ a ≤ b ∧ b < g 0 ∧ 1 ≤ k ∧ k ≤ 3 ∧ b - a < g 5) (hv : ¬ (0 ≤ v ∧ v ≤ 3)) : xc_ifc g a b k v = some hx_IAE := (xc_or_n (xc_req_n h)).trans (if_neg hv)
theorem rq_app {n : Nat} {z : Int} (h : ¬ (0 ≤ z ∧ z ≤ 255)) : xc_app n z = some hx_IAE := if_neg h
theorem rq_abo {z : Int} (h : ¬ (0 ≤ z ∧ z ≤ 8)) : xc_abo z = some hx_IAE := if_neg h
theorem rq_stem {g : Nat → Int} {z : Int} (h : ¬ (0 ≤ z ∧ z < g 0)) : xc_stem g z = some hx_IOE := if_neg h
theorem rq_gar {a b : Int} (h : ¬ (a = 0 ∨ a = 1)) : xc_gar a b = some hx_IOE := if_neg h
theorem rq_gar2 {a b : Int} (h : a = 0 ∨ a = 1) (h2 : ¬ (0 ≤ b ∧ b ≤ 2)) : xc_gar a b = some hx_IAE := (if_pos h).trans (if_neg h2)
theorem rq_set {z : Int} (h : ¬ (0 ≤ z ∧ z ≤ 1)) : xc_set z = some hx_IAE := if_neg h
theorem rq_pl {a b : Int} (h : ¬ (2 ≤ a ∧ a ≤ 6)) : xc_plant a b = some hx_IAE := if_neg h
theorem rq_pl2 {a b : Int} (h : 2 ≤ a ∧ a ≤ 6) (h2 : ¬ (0 ≤ b ∧ b < ((4 ^ a.toNat : Nat) : Int))) : xc_plant a b = some hx_IAE := (if_pos h).trans (if_neg h2)
theorem rq_wat {g : Nat → Int} {z : Int} (h : ¬ (0 ≤ z ∧ z < g 0)) : xc_wat g z = some hx_IOE := xc_or_s (if_neg h)
theorem rq_wind {z : Int} (h : ¬ (0 ≤ z ∧ z < 3)) : xc_wind z = some hx_IAE := if_neg h
theorem rq_lay {a v : Int} (h : ¬ (0 ≤ a ∧ a ≤ 1)) : xc_sett a v = some hx_IAE := xc_or_s (if_neg h)
theorem rq_lay0 {v : Int} (h : ¬ (1 ≤ v ∧ v ≤ 9)) : xc_sett 0 v = some hx_IAE := (xc_or_n (if_pos (by decide))).trans (if_neg h)
theorem rq_lay1 {v : Int} (h : ¬ (1 ≤ v ∧ v ≤ 3)) : xc_sett 1 v = some hx_IAE := (xc_or_n (if_pos (by decide))).trans (if_neg h)
theorem rq_go {a b : Int} (h : ¬ (1 ≤ a ∧ a ≤ 18)) : xc_go a b = some hx_IAE := if_neg h
theorem rq_go2 {a b : Int} (h : 1 ≤ a ∧ a ≤ 18) (h2 : ¬ (0 ≤ b ∧ b ≤ 1)) : xc_go a b = some hx_IAE := (if_pos h).trans (if_neg h2)
theorem rq_slot {z : Int} (h : ¬ (0 ≤ z ∧ z < 2)) : xc_slot z = some hx_IOE := if_neg h
theorem rq_rest {sal : Nat → Bool} {z : Int} (h : ¬ (0 ≤ z ∧ z < 2)) : xc_rest sal z = some hx_IOE := xc_or_s (if_neg h)
theorem rq_run {z : Int} {x : Int64} (h : ¬ (1 ≤ z ∧ z ≤ 3)) : xc_run z x = some hx_IAE := if_neg h
theorem rq_sim {z : Int} (h : ¬ (1 ≤ z ∧ z ≤ 60)) : xc_sim z = some hx_IAE := if_neg h

theorem rq_run1 {x : Int} (hx : 0 ≤ x ∧ x < 100000) : xc_run 1 (10000 + (zI x).toInt64) = some hx_IAE := by
  have h1 : (10000 + (zI x).toInt64).toInt = 10000 + x := by
    rw [Int64.toInt_add, Int32.toInt_toInt64, zI_toInt (by omega), show (10000 : Int64).toInt = 10000 from by decide, Int.bmod_eq_of_le (by omega) (by omega)]
  have hpos : ∀ y : Int64, 0 < y.toInt → lg_cmp y 0 = 1 := fun y hy => by
    unfold lg_cmp
    rw [if_pos (Int64.lt_iff_toInt_lt.mpr (by rw [show (0 : Int64).toInt = 0 from by decide]; exact hy))]
  have h2 : 0 < (ox_wg (10000 + (zI x).toInt64) 1).toInt := by
    show 0 < ((10000 + (zI x).toInt64) / 10000).toInt
    rw [sm_d (by omega), h1]
    omega
  unfold xc_run
  rw [if_pos (by decide), hpos (10000 + (zI x).toInt64) (by omega), if_neg (by decide), if_pos]
  show ¬ lg_cmp (ox_wg (10000 + (zI x).toInt64) 1) 0 = 0
  rw [hpos _ h2]
  decide

set_option maxHeartbeats 4000000 in
set_option maxRecDepth 100000 in
theorem k_L_refuses_0 (l : Launch) (D : va_G) (dA : Nat → ClassId) (sa : Nat → Nat) (hst : l.stackTraces = false) (a : Nat → Nat) (L : ob_L) (h : ob_H) (hJ : ob_J L) (hk0 : ob_k h) (x : Int) (hx : 0 ≤ x ∧ x < 100000) (hp : x % 2 = 0) : hy_Ct l yL_refuses (hw_W yL_refuses cL_refuses 6 (some .boolean)) 47 D dA sa [.ref (a 0), .int (zI (x))] (ob_W dA a L h) 113 46030 (S := ob_H) (fun _ => some (.int (zI (1)))) (fun u => ob_k u) (fun u => ob_W dA a L u) := by
  have hg0 := hJ.1.1
  have hg5 := hJ.1.2.2.2.2.2
  refine hz_of (own := RL) (cc := cL_refuses) (maxL := 6) (ret := (some .boolean)) rfl (by decide) rfl (Nat.le_of_ble_eq_true rfl) ?_
  intro p e s m args below meth c C X M
  refine hv_lveq (lv' := [(0, .ref (a 0)), (1, .int (zI (x)))]) rfl ?_
  refine hv_aload_n C dL_refuses_0 0 rfl ?_
  refine hv_iconst C dL_refuses_1 (v := zI (2)) rfl ?_
  refine hv_iconst C dL_refuses_2 (v := zI (0)) rfl ?_
  refine hv_iconst C dL_refuses_3 (v := zI (0)) rfl ?_
  refine hv_iconst C dL_refuses_4 (v := zI (0)) rfl ?_
  refine hz_callS (As := [.ref (a 0), .int (zI (2)), .int (zI (0)), .int (zI (0)), .int (zI (0))]) (rest := []) (wc := ob_W dA a L h) (wr := []) C X (k_C_about l D dA sa hst a L h hJ hk0 (0) (by decide) (0) (0) (by decide)) (va_cwS 5 C.1.2.2.2.2 (hw_S tw_m_RL_132 tw_t_L_call tw_n_RL tw_k_L_call) rfl rfl rfl (by decide +kernel) ⟨Nat.le_of_ble_eq_true rfl, Nat.le_of_ble_eq_true rfl⟩) (List.Perm.of_eq (List.append_nil _).symm) rfl rfl (Nat.le_of_ble_eq_true rfl) dL_refuses_5 ⟨Nat.le_of_ble_eq_true rfl, Nat.le_of_ble_eq_true rfl⟩ (fun u1 hu1 => ?_)
  refine hv_weq (ws' := ob_W dA a L u1) (List.append_nil _) ?_
  refine hv_eqst (st' := [.int (zI (an_about L (0)))]) rfl ?_
  refine hv_topi (y := zI (lg L 0)) (by rw [show an_about L (0) = lg L 0 from an_abo0 L]) ?_
  refine hv_istore_n C dL_refuses_8 (lw := [(2, .int (zI (lg L 0))), (0, .ref (a 0)), (1, .int (zI (x)))]) (by decide) rfl ?_
  refine hv_aload_n C dL_refuses_9 1 rfl ?_
  refine hv_iconst C dL_refuses_10 (v := zI (5)) rfl ?_
  refine hv_iconst C dL_refuses_11 (v := zI (1)) rfl ?_
  refine hv_iconst C dL_refuses_12 (v := zI (0)) rfl ?_
  refine hv_iconst C dL_refuses_13 (v := zI (0)) rfl ?_
  refine hz_callS (As := [.ref (a 0), .int (zI (5)), .int (zI (1)), .int (zI (0)), .int (zI (0))]) (rest := []) (wc := ob_W dA a L u1) (wr := []) C X (k_C_setting l D dA sa hst a L u1 hJ hu1.1 (1) (by decide) (0) (0)) (va_cwS 5 C.1.2.2.2.2 (hw_S tw_m_RL_132 tw_t_L_call tw_n_RL tw_k_L_call) rfl rfl rfl (by decide +kernel) ⟨Nat.le_of_ble_eq_true rfl, Nat.le_of_ble_eq_true rfl⟩) (List.Perm.of_eq (List.append_nil _).symm) rfl rfl (Nat.le_of_ble_eq_true rfl) dL_refuses_14 ⟨Nat.le_of_ble_eq_true rfl, Nat.le_of_ble_eq_true rfl⟩ (fun u2 hu2 => ?_)
  refine hv_weq (ws' := ob_W dA a L u2) (List.append_nil _) ?_
  refine hv_eqst (st' := [.int (zI (an_setting L (1)))]) rfl ?_
  refine hv_topi (y := zI (lg L 5)) (by rw [show an_setting L (1) = lg L 5 from an_set1 L]) ?_
  refine hv_istore_n C dL_refuses_17 (lw := [(3, .int (zI (lg L 5))), (2, .int (zI (lg L 0))), (0, .ref (a 0)), (1, .int (zI (x)))]) (by decide) rfl ?_
  refine hv_iload_n C dL_refuses_18 3 rfl ?_
  refine hv_iconst C dL_refuses_19 (v := zI (2)) rfl ?_
  refine hv_irem C dL_refuses_20 (z := zI (x % 2)) ((zI_ne0 (by omega)).mpr (by omega)) ((zI_rem (by omega)).trans (zI_c (by omega))) ?_
  refine hv_if_ne C dL_refuses_21 (tgt := 33) (by decide) (zI_ne0 (by omega)) (fun hc21 => ?_) (fun hc21 => ?_)
  · exact absurd hc21 (by omega)
  · refine hv_iconst C dL_refuses_24 (v := zI (-1)) rfl ?_
    refine hv_iload_n C dL_refuses_25 3 rfl ?_
    refine hv_bipush C dL_refuses_26 (v := zI (99)) (by decide +kernel) ?_
    refine hv_irem C dL_refuses_28 (z := zI (x % 99)) ((zI_ne0 (by omega)).mpr (by omega)) ((zI_rem (by omega)).trans (zI_c (by omega))) ?_
    refine hv_isub C dL_refuses_29 (z := zI (-1 - x % 99)) ((zI_sub _ _).trans (zI_c (by omega))) ?_
    refine hv_goto C dL_refuses_30 (tgt := 39) (by decide) ?_
    refine hv_istore C dL_refuses_39 (lw := [(4, .int (zI (-1 - x % 99))), (3, .int (zI (lg L 5))), (2, .int (zI (lg L 0))), (0, .ref (a 0)), (1, .int (zI (x)))]) (by decide) rfl ?_
    refine hv_iload_n C dL_refuses_41 2 rfl ?_
    refine hv_iconst C dL_refuses_42 (v := zI (1)) rfl ?_
    refine hv_isub C dL_refuses_43 (z := zI (lg L 0 - 1)) ((zI_sub _ _).trans (zI_c (by omega))) ?_
    refine hv_istore C dL_refuses_44 (lw := [(5, .int (zI (lg L 0 - 1))), (4, .int (zI (-1 - x % 99))), (3, .int (zI (lg L 5))), (2, .int (zI (lg L 0))), (0, .ref (a 0)), (1, .int (zI (x)))]) (by decide) rfl ?_
    refine hv_aload_n C dL_refuses_46 4 rfl ?_
    refine hv_iconst C dL_refuses_47 (v := zI (0)) rfl ?_
    refine hv_iload_n C dL_refuses_48 5 rfl ?_
    refine hv_iconst C dL_refuses_49 (v := zI (2)) rfl ?_
    refine hv_irem C dL_refuses_50 (z := zI (x % 2)) ((zI_ne0 (by omega)).mpr (by omega)) ((zI_rem (by omega)).trans (zI_c (by omega))) ?_
    refine hv_if_ne C dL_refuses_51 (tgt := 63) (by decide) (zI_ne0 (by omega)) (fun hc51 => ?_) (fun hc51 => ?_)
    · exact absurd hc51 (by omega)
    · refine hv_iconst C dL_refuses_54 (v := zI (-1)) rfl ?_
      refine hv_iload_n C dL_refuses_55 5 rfl ?_
      refine hv_bipush C dL_refuses_56 (v := zI (9)) (by decide +kernel) ?_
      refine hv_irem C dL_refuses_58 (z := zI (x % 9)) ((zI_ne0 (by omega)).mpr (by omega)) ((zI_rem (by omega)).trans (zI_c (by omega))) ?_
      refine hv_isub C dL_refuses_59 (z := zI (-1 - x % 9)) ((zI_sub _ _).trans (zI_c (by omega))) ?_
      refine hv_goto C dL_refuses_60 (tgt := 71) (by decide) ?_
      refine hv_iconst C dL_refuses_71 (v := zI (0)) rfl ?_
      refine hv_iconst C dL_refuses_72 (v := zI (0)) rfl ?_
      refine hz_callS (As := [.ref (a 0), .int (zI (0)), .int (zI (-1 - x % 9)), .int (zI (0)), .int (zI (0))]) (rest := []) (wc := ob_W dA a L u2) (wr := []) C X (k_C_append_x l D dA sa hst a L u2 hJ hu2.1 (-1 - x % 9) (by omega) (0) (0) hx_IAE (rq_app (by omega))) (va_cwS 5 C.1.2.2.2.2 (hw_S tw_m_RL_132 tw_t_L_call tw_n_RL tw_k_L_call) rfl rfl rfl (by decide +kernel) ⟨Nat.le_of_ble_eq_true rfl, Nat.le_of_ble_eq_true rfl⟩) (List.Perm.of_eq (List.append_nil _).symm) rfl rfl (Nat.le_of_ble_eq_true rfl) dL_refuses_73 ⟨Nat.le_of_ble_eq_true rfl, Nat.le_of_ble_eq_true rfl⟩ (fun u3 hu3 => ?_)
      refine hv_weq (ws' := ob_W dA a L u3) (List.append_nil _) ?_
      refine hv_eqst (st' := [.int (zI (ob_er hx_IAE))]) rfl ?_
      refine hv_topi (y := zI (-9999002)) (by rw [ob_er_IAE]) ?_
      refine hv_ldc C dL_refuses_76 (hw_c tw_o_RL_18) ?_
      refine hv_topi (y := zI (-9999002)) (by decide +kernel) ?_
      refine hv_icmp_ne C dL_refuses_78 (tgt := 646) (by decide) (zI_ne (by omega)) (fun hc78 => ?_) (fun hc78 => ?_)
      · exact absurd hc78 (by omega)
      · refine hv_aload_n C dL_refuses_81 4 rfl ?_
        refine hv_iconst C dL_refuses_82 (v := zI (2)) rfl ?_
        refine hv_bipush C dL_refuses_83 (v := zI (9)) (by decide +kernel) ?_
        refine hv_iload_n C dL_refuses_85 5 rfl ?_
        refine hv_bipush C dL_refuses_86 (v := zI (50)) (by decide +kernel) ?_
        refine hv_irem C dL_refuses_88 (z := zI (x % 50)) ((zI_ne0 (by omega)).mpr (by omega)) ((zI_rem (by omega)).trans (zI_c (by omega))) ?_
        refine hv_iadd C dL_refuses_89 (z := zI (9 + x % 50)) ((zI_add _ _).trans (zI_c (by omega))) ?_
        refine hv_iconst C dL_refuses_90 (v := zI (0)) rfl ?_
        refine hv_iconst C dL_refuses_91 (v := zI (0)) rfl ?_
        refine hz_callS (As := [.ref (a 0), .int (zI (2)), .int (zI (9 + x % 50)), .int (zI (0)), .int (zI (0))]) (rest := []) (wc := ob_W dA a L u3) (wr := []) C X (k_R_about l D dA sa hst a L u3 hJ hu3.1 (9 + x % 50) (by omega) (0) (0) hx_IAE (rq_abo (by omega))) (va_cwS 5 C.1.2.2.2.2 (hw_S tw_m_RL_132 tw_t_L_call tw_n_RL tw_k_L_call) rfl rfl rfl (by decide +kernel) ⟨Nat.le_of_ble_eq_true rfl, Nat.le_of_ble_eq_true rfl⟩) (List.Perm.of_eq (List.append_nil _).symm) rfl rfl (Nat.le_of_ble_eq_true rfl) dL_refuses_92 ⟨Nat.le_of_ble_eq_true rfl, Nat.le_of_ble_eq_true rfl⟩ (fun u4 hu4 => ?_)
        refine hv_weq (ws' := ob_W dA a L u4) (List.append_nil _) ?_
        refine hv_eqst (st' := [.int (zI (ob_er hx_IAE))]) rfl ?_
        refine hv_topi (y := zI (-9999002)) (by rw [ob_er_IAE]) ?_
        refine hv_ldc C dL_refuses_95 (hw_c tw_o_RL_18) ?_
        refine hv_topi (y := zI (-9999002)) (by decide +kernel) ?_
        refine hv_icmp_ne C dL_refuses_97 (tgt := 646) (by decide) (zI_ne (by omega)) (fun hc97 => ?_) (fun hc97 => ?_)
        · exact absurd hc97 (by omega)
        · refine hv_aload_n C dL_refuses_100 4 rfl ?_
          refine hv_iconst C dL_refuses_101 (v := zI (3)) rfl ?_
          refine hv_iload C dL_refuses_102 1 rfl ?_
          refine hv_iconst C dL_refuses_104 (v := zI (0)) rfl ?_
          refine hv_iconst C dL_refuses_105 (v := zI (0)) rfl ?_
          refine hz_callS (As := [.ref (a 0), .int (zI (3)), .int (zI (-1 - x % 99)), .int (zI (0)), .int (zI (0))]) (rest := []) (wc := ob_W dA a L u4) (wr := []) C X (k_R_leaves l D dA sa hst a L u4 hJ hu4.1 (-1 - x % 99) (by omega) (0) (0) hx_IOE (rq_stem (by omega))) (va_cwS 5 C.1.2.2.2.2 (hw_S tw_m_RL_132 tw_t_L_call tw_n_RL tw_k_L_call) rfl rfl rfl (by decide +kernel) ⟨Nat.le_of_ble_eq_true rfl, Nat.le_of_ble_eq_true rfl⟩) (List.Perm.of_eq (List.append_nil _).symm) rfl rfl (Nat.le_of_ble_eq_true rfl) dL_refuses_106 ⟨Nat.le_of_ble_eq_true rfl, Nat.le_of_ble_eq_true rfl⟩ (fun u5 hu5 => ?_)
          refine hv_weq (ws' := ob_W dA a L u5) (List.append_nil _) ?_
          refine hv_eqst (st' := [.int (zI (ob_er hx_IOE))]) rfl ?_
          refine hv_topi (y := zI (-9999001)) (by rw [ob_er_IOE]) ?_
          refine hv_ldc C dL_refuses_109 (hw_c tw_o_RL_15) ?_
          refine hv_topi (y := zI (-9999001)) (by decide +kernel) ?_
          refine hv_icmp_ne C dL_refuses_111 (tgt := 646) (by decide) (zI_ne (by omega)) (fun hc111 => ?_) (fun hc111 => ?_)
          · exact absurd hc111 (by omega)
          · refine hv_aload_n C dL_refuses_114 4 rfl ?_
            refine hv_iconst C dL_refuses_115 (v := zI (4)) rfl ?_
            refine hv_iconst C dL_refuses_116 (v := zI (2)) rfl ?_
            refine hv_iload_n C dL_refuses_117 5 rfl ?_
            refine hv_bipush C dL_refuses_118 (v := zI (9)) (by decide +kernel) ?_
            refine hv_irem C dL_refuses_120 (z := zI (x % 9)) ((zI_ne0 (by omega)).mpr (by omega)) ((zI_rem (by omega)).trans (zI_c (by omega))) ?_
            refine hv_iadd C dL_refuses_121 (z := zI (2 + x % 9)) ((zI_add _ _).trans (zI_c (by omega))) ?_
            refine hv_bipush C dL_refuses_122 (v := zI (9)) (by decide +kernel) ?_
            refine hv_iconst C dL_refuses_124 (v := zI (0)) rfl ?_
            refine hz_callS (As := [.ref (a 0), .int (zI (4)), .int (zI (2 + x % 9)), .int (zI (9)), .int (zI (0))]) (rest := []) (wc := ob_W dA a L u5) (wr := []) C X (k_R_who l D dA sa hst a L u5 hJ hu5.1 (2 + x % 9) (by omega) (9) (by decide) (0) hx_IOE (rq_gar (by omega))) (va_cwS 5 C.1.2.2.2.2 (hw_S tw_m_RL_132 tw_t_L_call tw_n_RL tw_k_L_call) rfl rfl rfl (by decide +kernel) ⟨Nat.le_of_ble_eq_true rfl, Nat.le_of_ble_eq_true rfl⟩) (List.Perm.of_eq (List.append_nil _).symm) rfl rfl (Nat.le_of_ble_eq_true rfl) dL_refuses_125 ⟨Nat.le_of_ble_eq_true rfl, Nat.le_of_ble_eq_true rfl⟩ (fun u6 hu6 => ?_)
            refine hv_weq (ws' := ob_W dA a L u6) (List.append_nil _) ?_
            refine hv_eqst (st' := [.int (zI (ob_er hx_IOE))]) rfl ?_
            refine hv_topi (y := zI (-9999001)) (by rw [ob_er_IOE]) ?_
            refine hv_ldc C dL_refuses_128 (hw_c tw_o_RL_15) ?_
            refine hv_topi (y := zI (-9999001)) (by decide +kernel) ?_
            refine hv_icmp_ne C dL_refuses_130 (tgt := 646) (by decide) (zI_ne (by omega)) (fun hc130 => ?_) (fun hc130 => ?_)
            · exact absurd hc130 (by omega)
            · refine hv_aload_n C dL_refuses_133 4 rfl ?_
              refine hv_iconst C dL_refuses_134 (v := zI (4)) rfl ?_
              refine hv_iload_n C dL_refuses_135 5 rfl ?_
              refine hv_iconst C dL_refuses_136 (v := zI (2)) rfl ?_
              refine hv_irem C dL_refuses_137 (z := zI (x % 2)) ((zI_ne0 (by omega)).mpr (by omega)) ((zI_rem (by omega)).trans (zI_c (by omega))) ?_
              refine hv_iconst C dL_refuses_138 (v := zI (3)) rfl ?_
              refine hv_iload_n C dL_refuses_139 5 rfl ?_
              refine hv_bipush C dL_refuses_140 (v := zI (9)) (by decide +kernel) ?_
              refine hv_irem C dL_refuses_142 (z := zI (x % 9)) ((zI_ne0 (by omega)).mpr (by omega)) ((zI_rem (by omega)).trans (zI_c (by omega))) ?_
              refine hv_iadd C dL_refuses_143 (z := zI (3 + x % 9)) ((zI_add _ _).trans (zI_c (by omega))) ?_
              refine hv_iconst C dL_refuses_144 (v := zI (0)) rfl ?_
              refine hz_callS (As := [.ref (a 0), .int (zI (4)), .int (zI (x % 2)), .int (zI (3 + x % 9)), .int (zI (0))]) (rest := []) (wc := ob_W dA a L u6) (wr := []) C X (k_R_who l D dA sa hst a L u6 hJ hu6.1 (x % 2) (by omega) (3 + x % 9) (by omega) (0) hx_IAE (rq_gar2 (by omega) (by omega))) (va_cwS 5 C.1.2.2.2.2 (hw_S tw_m_RL_132 tw_t_L_call tw_n_RL tw_k_L_call) rfl rfl rfl (by decide +kernel) ⟨Nat.le_of_ble_eq_true rfl, Nat.le_of_ble_eq_true rfl⟩) (List.Perm.of_eq (List.append_nil _).symm) rfl rfl (Nat.le_of_ble_eq_true rfl) dL_refuses_145 ⟨Nat.le_of_ble_eq_true rfl, Nat.le_of_ble_eq_true rfl⟩ (fun u7 hu7 => ?_)
              refine hv_weq (ws' := ob_W dA a L u7) (List.append_nil _) ?_
              refine hv_eqst (st' := [.int (zI (ob_er hx_IAE))]) rfl ?_
              refine hv_topi (y := zI (-9999002)) (by rw [ob_er_IAE]) ?_
              refine hv_ldc C dL_refuses_148 (hw_c tw_o_RL_18) ?_
              refine hv_topi (y := zI (-9999002)) (by decide +kernel) ?_
              refine hv_icmp_ne C dL_refuses_150 (tgt := 646) (by decide) (zI_ne (by omega)) (fun hc150 => ?_) (fun hc150 => ?_)
              · exact absurd hc150 (by omega)
              · refine hv_aload_n C dL_refuses_153 4 rfl ?_
                refine hv_iconst C dL_refuses_154 (v := zI (5)) rfl ?_
                refine hv_iconst C dL_refuses_155 (v := zI (2)) rfl ?_
                refine hv_iload_n C dL_refuses_156 5 rfl ?_
                refine hv_bipush C dL_refuses_157 (v := zI (9)) (by decide +kernel) ?_
                refine hv_irem C dL_refuses_159 (z := zI (x % 9)) ((zI_ne0 (by omega)).mpr (by omega)) ((zI_rem (by omega)).trans (zI_c (by omega))) ?_
                refine hv_iadd C dL_refuses_160 (z := zI (2 + x % 9)) ((zI_add _ _).trans (zI_c (by omega))) ?_
                refine hv_iconst C dL_refuses_161 (v := zI (0)) rfl ?_
                refine hv_iconst C dL_refuses_162 (v := zI (0)) rfl ?_
                refine hz_callS (As := [.ref (a 0), .int (zI (5)), .int (zI (2 + x % 9)), .int (zI (0)), .int (zI (0))]) (rest := []) (wc := ob_W dA a L u7) (wr := []) C X (k_R_setting l D dA sa hst a L u7 hJ hu7.1 (2 + x % 9) (by omega) (0) (0) hx_IAE (rq_set (by omega))) (va_cwS 5 C.1.2.2.2.2 (hw_S tw_m_RL_132 tw_t_L_call tw_n_RL tw_k_L_call) rfl rfl rfl (by decide +kernel) ⟨Nat.le_of_ble_eq_true rfl, Nat.le_of_ble_eq_true rfl⟩) (List.Perm.of_eq (List.append_nil _).symm) rfl rfl (Nat.le_of_ble_eq_true rfl) dL_refuses_163 ⟨Nat.le_of_ble_eq_true rfl, Nat.le_of_ble_eq_true rfl⟩ (fun u8 hu8 => ?_)
                refine hv_weq (ws' := ob_W dA a L u8) (List.append_nil _) ?_
                refine hv_eqst (st' := [.int (zI (ob_er hx_IAE))]) rfl ?_
                refine hv_topi (y := zI (-9999002)) (by rw [ob_er_IAE]) ?_
                refine hv_ldc C dL_refuses_166 (hw_c tw_o_RL_18) ?_
                refine hv_topi (y := zI (-9999002)) (by decide +kernel) ?_
                refine hv_icmp_ne C dL_refuses_168 (tgt := 646) (by decide) (zI_ne (by omega)) (fun hc168 => ?_) (fun hc168 => ?_)
                · exact absurd hc168 (by omega)
                · refine hv_aload_n C dL_refuses_171 4 rfl ?_
                  refine hv_bipush C dL_refuses_172 (v := zI (6)) (by decide +kernel) ?_
                  refine hv_iload_n C dL_refuses_174 5 rfl ?_
                  refine hv_iconst C dL_refuses_175 (v := zI (2)) rfl ?_
                  refine hv_irem C dL_refuses_176 (z := zI (x % 2)) ((zI_ne0 (by omega)).mpr (by omega)) ((zI_rem (by omega)).trans (zI_c (by omega))) ?_
                  refine hv_if_ne C dL_refuses_177 (tgt := 189) (by decide) (zI_ne0 (by omega)) (fun hc177 => ?_) (fun hc177 => ?_)
                  · exact absurd hc177 (by omega)
                  · refine hv_iconst C dL_refuses_180 (v := zI (1)) rfl ?_
                    refine hv_iload_n C dL_refuses_181 5 rfl ?_
                    refine hv_bipush C dL_refuses_182 (v := zI (9)) (by decide +kernel) ?_
                    refine hv_irem C dL_refuses_184 (z := zI (x % 9)) ((zI_ne0 (by omega)).mpr (by omega)) ((zI_rem (by omega)).trans (zI_c (by omega))) ?_
                    refine hv_isub C dL_refuses_185 (z := zI (1 - x % 9)) ((zI_sub _ _).trans (zI_c (by omega))) ?_
                    refine hv_goto C dL_refuses_186 (tgt := 196) (by decide) ?_
                    refine hv_iconst C dL_refuses_196 (v := zI (0)) rfl ?_
                    refine hv_iconst C dL_refuses_197 (v := zI (0)) rfl ?_
                    refine hz_callS (As := [.ref (a 0), .int (zI (6)), .int (zI (1 - x % 9)), .int (zI (0)), .int (zI (0))]) (rest := []) (wc := ob_W dA a L u8) (wr := []) C X (k_R_plant l D dA sa hst a L u8 hJ hu8.1 (1 - x % 9) (by omega) (0) (by decide) (0) hx_IAE (rq_pl (by omega))) (va_cwS 5 C.1.2.2.2.2 (hw_S tw_m_RL_132 tw_t_L_call tw_n_RL tw_k_L_call) rfl rfl rfl (by decide +kernel) ⟨Nat.le_of_ble_eq_true rfl, Nat.le_of_ble_eq_true rfl⟩) (List.Perm.of_eq (List.append_nil _).symm) rfl rfl (Nat.le_of_ble_eq_true rfl) dL_refuses_198 ⟨Nat.le_of_ble_eq_true rfl, Nat.le_of_ble_eq_true rfl⟩ (fun u9 hu9 => ?_)
                    refine hv_weq (ws' := ob_W dA a L u9) (List.append_nil _) ?_
                    refine hv_eqst (st' := [.int (zI (ob_er hx_IAE))]) rfl ?_
                    refine hv_topi (y := zI (-9999002)) (by rw [ob_er_IAE]) ?_
                    refine hv_ldc C dL_refuses_201 (hw_c tw_o_RL_18) ?_
                    refine hv_topi (y := zI (-9999002)) (by decide +kernel) ?_
                    refine hv_icmp_ne C dL_refuses_203 (tgt := 646) (by decide) (zI_ne (by omega)) (fun hc203 => ?_) (fun hc203 => ?_)
                    · exact absurd hc203 (by omega)
                    · refine hv_aload_n C dL_refuses_206 4 rfl ?_
                      refine hv_bipush C dL_refuses_207 (v := zI (6)) (by decide +kernel) ?_
                      refine hv_iconst C dL_refuses_209 (v := zI (2)) rfl ?_
                      refine hv_iload_n C dL_refuses_210 5 rfl ?_
                      refine hv_iconst C dL_refuses_211 (v := zI (5)) rfl ?_
                      refine hv_irem C dL_refuses_212 (z := zI (x % 5)) ((zI_ne0 (by omega)).mpr (by omega)) ((zI_rem (by omega)).trans (zI_c (by omega))) ?_
                      refine hv_iadd C dL_refuses_213 (z := zI (2 + x % 5)) ((zI_add _ _).trans (zI_c (by omega))) ?_
                      refine hv_iconst C dL_refuses_214 (v := zI (-1)) rfl ?_
                      refine hv_iload_n C dL_refuses_215 5 rfl ?_
                      refine hv_bipush C dL_refuses_216 (v := zI (9)) (by decide +kernel) ?_
                      refine hv_irem C dL_refuses_218 (z := zI (x % 9)) ((zI_ne0 (by omega)).mpr (by omega)) ((zI_rem (by omega)).trans (zI_c (by omega))) ?_
                      refine hv_isub C dL_refuses_219 (z := zI (-1 - x % 9)) ((zI_sub _ _).trans (zI_c (by omega))) ?_
                      refine hv_iconst C dL_refuses_220 (v := zI (0)) rfl ?_
                      refine hz_callS (As := [.ref (a 0), .int (zI (6)), .int (zI (2 + x % 5)), .int (zI (-1 - x % 9)), .int (zI (0))]) (rest := []) (wc := ob_W dA a L u9) (wr := []) C X (k_R_plant l D dA sa hst a L u9 hJ hu9.1 (2 + x % 5) (by omega) (-1 - x % 9) (by omega) (0) hx_IAE (rq_pl2 (by omega) (by omega))) (va_cwS 5 C.1.2.2.2.2 (hw_S tw_m_RL_132 tw_t_L_call tw_n_RL tw_k_L_call) rfl rfl rfl (by decide +kernel) ⟨Nat.le_of_ble_eq_true rfl, Nat.le_of_ble_eq_true rfl⟩) (List.Perm.of_eq (List.append_nil _).symm) rfl rfl (Nat.le_of_ble_eq_true rfl) dL_refuses_221 ⟨Nat.le_of_ble_eq_true rfl, Nat.le_of_ble_eq_true rfl⟩ (fun u10 hu10 => ?_)
                      refine hv_weq (ws' := ob_W dA a L u10) (List.append_nil _) ?_
                      refine hv_eqst (st' := [.int (zI (ob_er hx_IAE))]) rfl ?_
                      refine hv_topi (y := zI (-9999002)) (by rw [ob_er_IAE]) ?_
                      refine hv_ldc C dL_refuses_224 (hw_c tw_o_RL_18) ?_
                      refine hv_topi (y := zI (-9999002)) (by decide +kernel) ?_
                      refine hv_icmp_ne C dL_refuses_226 (tgt := 646) (by decide) (zI_ne (by omega)) (fun hc226 => ?_) (fun hc226 => ?_)
                      · exact absurd hc226 (by omega)
                      · refine hv_aload_n C dL_refuses_229 4 rfl ?_
                        refine hv_bipush C dL_refuses_230 (v := zI (6)) (by decide +kernel) ?_
                        refine hv_iconst C dL_refuses_232 (v := zI (2)) rfl ?_
                        refine hv_iload_n C dL_refuses_233 5 rfl ?_
                        refine hv_iconst C dL_refuses_234 (v := zI (5)) rfl ?_
                        refine hv_irem C dL_refuses_235 (z := zI (x % 5)) ((zI_ne0 (by omega)).mpr (by omega)) ((zI_rem (by omega)).trans (zI_c (by omega))) ?_
                        refine hv_iadd C dL_refuses_236 (z := zI (2 + x % 5)) ((zI_add _ _).trans (zI_c (by omega))) ?_
                        refine hv_iconst C dL_refuses_237 (v := zI (1)) rfl ?_
                        refine hv_iconst C dL_refuses_238 (v := zI (2)) rfl ?_
                        refine hv_iconst C dL_refuses_239 (v := zI (2)) rfl ?_
                        refine hv_iload_n C dL_refuses_240 5 rfl ?_
                        refine hv_iconst C dL_refuses_241 (v := zI (5)) rfl ?_
                        refine hv_irem C dL_refuses_242 (z := zI (x % 5)) ((zI_ne0 (by omega)).mpr (by omega)) ((zI_rem (by omega)).trans (zI_c (by omega))) ?_
                        refine hv_iadd C dL_refuses_243 (z := zI (2 + x % 5)) ((zI_add _ _).trans (zI_c (by omega))) ?_
                        refine hv_imul C dL_refuses_244 (z := zI (2 * (2 + x % 5))) ((zI_mul _ _).trans (zI_c (by omega))) ?_
                        refine hv_ishl C dL_refuses_245 (z := zI (((4 ^ (2 + x % 5).toNat : Nat) : Int))) (by exact sh_p (by omega)) ?_
                        have hp4 := p4_ran (z := 2 + x % 5) (by omega)
                        refine hv_iload_n C dL_refuses_246 5 rfl ?_
                        refine hv_iadd C dL_refuses_247 (z := zI (((4 ^ (2 + x % 5).toNat : Nat) : Int) + x)) ((zI_add _ _).trans (zI_c (by omega))) ?_
                        refine hv_iconst C dL_refuses_248 (v := zI (0)) rfl ?_
                        refine hz_callS (As := [.ref (a 0), .int (zI (6)), .int (zI (2 + x % 5)), .int (zI (((4 ^ (2 + x % 5).toNat : Nat) : Int) + x)), .int (zI (0))]) (rest := []) (wc := ob_W dA a L u10) (wr := []) C X (k_R_plant l D dA sa hst a L u10 hJ hu10.1 (2 + x % 5) (by omega) (((4 ^ (2 + x % 5).toNat : Nat) : Int) + x) (by omega) (0) hx_IAE (rq_pl2 (by omega) (by omega))) (va_cwS 5 C.1.2.2.2.2 (hw_S tw_m_RL_132 tw_t_L_call tw_n_RL tw_k_L_call) rfl rfl rfl (by decide +kernel) ⟨Nat.le_of_ble_eq_true rfl, Nat.le_of_ble_eq_true rfl⟩) (List.Perm.of_eq (List.append_nil _).symm) rfl rfl (Nat.le_of_ble_eq_true rfl) dL_refuses_249 ⟨Nat.le_of_ble_eq_true rfl, Nat.le_of_ble_eq_true rfl⟩ (fun u11 hu11 => ?_)
                        refine hv_weq (ws' := ob_W dA a L u11) (List.append_nil _) ?_
                        refine hv_eqst (st' := [.int (zI (ob_er hx_IAE))]) rfl ?_
                        refine hv_topi (y := zI (-9999002)) (by rw [ob_er_IAE]) ?_
                        refine hv_ldc C dL_refuses_252 (hw_c tw_o_RL_18) ?_
                        refine hv_topi (y := zI (-9999002)) (by decide +kernel) ?_
                        refine hv_icmp_ne C dL_refuses_254 (tgt := 646) (by decide) (zI_ne (by omega)) (fun hc254 => ?_) (fun hc254 => ?_)
                        · exact absurd hc254 (by omega)
                        · refine hv_aload_n C dL_refuses_257 4 rfl ?_
                          refine hv_bipush C dL_refuses_258 (v := zI (7)) (by decide +kernel) ?_
                          refine hv_iload C dL_refuses_260 1 rfl ?_
                          refine hv_iconst C dL_refuses_262 (v := zI (0)) rfl ?_
                          refine hv_iconst C dL_refuses_263 (v := zI (1)) rfl ?_
                          refine hz_callS (As := [.ref (a 0), .int (zI (7)), .int (zI (-1 - x % 99)), .int (zI (0)), .int (zI (1))]) (rest := []) (wc := ob_W dA a L u11) (wr := []) C X (k_R_clip l D dA sa hst a L u11 hJ hu11.1 (-1 - x % 99) (by omega) (0) (by decide) (1) (by decide) hx_IOE (xc_or_s (rq_1 (by omega)))) (va_cwS 5 C.1.2.2.2.2 (hw_S tw_m_RL_132 tw_t_L_call tw_n_RL tw_k_L_call) rfl rfl rfl (by decide +kernel) ⟨Nat.le_of_ble_eq_true rfl, Nat.le_of_ble_eq_true rfl⟩) (List.Perm.of_eq (List.append_nil _).symm) rfl rfl (Nat.le_of_ble_eq_true rfl) dL_refuses_264 ⟨Nat.le_of_ble_eq_true rfl, Nat.le_of_ble_eq_true rfl⟩ (fun u12 hu12 => ?_)
                          refine hv_weq (ws' := ob_W dA a L u12) (List.append_nil _) ?_
                          refine hv_eqst (st' := [.int (zI (ob_er hx_IOE))]) rfl ?_
                          refine hv_topi (y := zI (-9999001)) (by rw [ob_er_IOE]) ?_
                          refine hv_ldc C dL_refuses_267 (hw_c tw_o_RL_15) ?_
                          refine hv_topi (y := zI (-9999001)) (by decide +kernel) ?_
                          refine hv_icmp_ne C dL_refuses_269 (tgt := 646) (by decide) (zI_ne (by omega)) (fun hc269 => ?_) (fun hc269 => ?_)
                          · exact absurd hc269 (by omega)
                          · refine hv_aload_n C dL_refuses_272 4 rfl ?_
                            refine hv_bipush C dL_refuses_273 (v := zI (7)) (by decide +kernel) ?_
                            refine hv_iconst C dL_refuses_275 (v := zI (0)) rfl ?_
                            refine hv_iload C dL_refuses_276 1 rfl ?_
                            refine hv_bipush C dL_refuses_278 (v := zI (9)) (by decide +kernel) ?_
                            refine hz_callS (As := [.ref (a 0), .int (zI (7)), .int (zI (0)), .int (zI (-1 - x % 99)), .int (zI (9))]) (rest := []) (wc := ob_W dA a L u12) (wr := []) C X (k_R_clip l D dA sa hst a L u12 hJ hu12.1 (0) (by decide) (-1 - x % 99) (by omega) (9) (by decide) hx_IOE (xc_or_s (rq_2 (by omega) (by omega)))) (va_cwS 5 C.1.2.2.2.2 (hw_S tw_m_RL_132 tw_t_L_call tw_n_RL tw_k_L_call) rfl rfl rfl (by decide +kernel) ⟨Nat.le_of_ble_eq_true rfl, Nat.le_of_ble_eq_true rfl⟩) (List.Perm.of_eq (List.append_nil _).symm) rfl rfl (Nat.le_of_ble_eq_true rfl) dL_refuses_280 ⟨Nat.le_of_ble_eq_true rfl, Nat.le_of_ble_eq_true rfl⟩ (fun u13 hu13 => ?_)
                            refine hv_weq (ws' := ob_W dA a L u13) (List.append_nil _) ?_
                            refine hv_eqst (st' := [.int (zI (ob_er hx_IOE))]) rfl ?_
                            refine hv_topi (y := zI (-9999001)) (by rw [ob_er_IOE]) ?_
                            refine hv_ldc C dL_refuses_283 (hw_c tw_o_RL_15) ?_
                            refine hv_topi (y := zI (-9999001)) (by decide +kernel) ?_
                            refine hv_icmp_ne C dL_refuses_285 (tgt := 646) (by decide) (zI_ne (by omega)) (fun hc285 => ?_) (fun hc285 => ?_)
                            · exact absurd hc285 (by omega)
                            · refine hv_aload_n C dL_refuses_288 4 rfl ?_
                              refine hv_bipush C dL_refuses_289 (v := zI (7)) (by decide +kernel) ?_
                              refine hv_iload C dL_refuses_291 0 rfl ?_
                              refine hv_iconst C dL_refuses_293 (v := zI (0)) rfl ?_
                              refine hv_iconst C dL_refuses_294 (v := zI (1)) rfl ?_
                              refine hz_callS (As := [.ref (a 0), .int (zI (7)), .int (zI (lg L 0 - 1)), .int (zI (0)), .int (zI (1))]) (rest := []) (wc := ob_W dA a L u13) (wr := []) C X (k_R_clip l D dA sa hst a L u13 hJ hu13.1 (lg L 0 - 1) (by omega) (0) (by decide) (1) (by decide) hx_IAE (xc_or_s (rq_3 (by omega) (by omega) (by omega)))) (va_cwS 5 C.1.2.2.2.2 (hw_S tw_m_RL_132 tw_t_L_call tw_n_RL tw_k_L_call) rfl rfl rfl (by decide +kernel) ⟨Nat.le_of_ble_eq_true rfl, Nat.le_of_ble_eq_true rfl⟩) (List.Perm.of_eq (List.append_nil _).symm) rfl rfl (Nat.le_of_ble_eq_true rfl) dL_refuses_295 ⟨Nat.le_of_ble_eq_true rfl, Nat.le_of_ble_eq_true rfl⟩ (fun u14 hu14 => ?_)
                              refine hv_weq (ws' := ob_W dA a L u14) (List.append_nil _) ?_
                              refine hv_eqst (st' := [.int (zI (ob_er hx_IAE))]) rfl ?_
                              refine hv_topi (y := zI (-9999002)) (by rw [ob_er_IAE]) ?_
                              refine hv_ldc C dL_refuses_298 (hw_c tw_o_RL_18) ?_
                              refine hv_topi (y := zI (-9999002)) (by decide +kernel) ?_
                              refine hv_icmp_ne C dL_refuses_300 (tgt := 646) (by decide) (zI_ne (by omega)) (fun hc300 => ?_) (fun hc300 => ?_)
                              · exact absurd hc300 (by omega)
                              · refine hv_aload_n C dL_refuses_303 4 rfl ?_
                                refine hv_bipush C dL_refuses_304 (v := zI (7)) (by decide +kernel) ?_
                                refine hv_iconst C dL_refuses_306 (v := zI (0)) rfl ?_
                                refine hv_iconst C dL_refuses_307 (v := zI (0)) rfl ?_
                                refine hv_iload_n C dL_refuses_308 5 rfl ?_
                                refine hv_iconst C dL_refuses_309 (v := zI (2)) rfl ?_
                                refine hv_irem C dL_refuses_310 (z := zI (x % 2)) ((zI_ne0 (by omega)).mpr (by omega)) ((zI_rem (by omega)).trans (zI_c (by omega))) ?_
                                refine hv_if_ne C dL_refuses_311 (tgt := 318) (by decide) (zI_ne0 (by omega)) (fun hc311 => ?_) (fun hc311 => ?_)
                                · exact absurd hc311 (by omega)
                                · refine hv_iconst C dL_refuses_314 (v := zI (0)) rfl ?_
                                  refine hv_goto C dL_refuses_315 (tgt := 324) (by decide) ?_
                                  refine hz_callS (As := [.ref (a 0), .int (zI (7)), .int (zI (0)), .int (zI (0)), .int (zI (0))]) (rest := []) (wc := ob_W dA a L u14) (wr := []) C X (k_R_clip l D dA sa hst a L u14 hJ hu14.1 (0) (by decide) (0) (by decide) (0) (by decide) hx_IAE (xc_or_s (rq_3 (by omega) (by omega) (by omega)))) (va_cwS 5 C.1.2.2.2.2 (hw_S tw_m_RL_132 tw_t_L_call tw_n_RL tw_k_L_call) rfl rfl rfl (by decide +kernel) ⟨Nat.le_of_ble_eq_true rfl, Nat.le_of_ble_eq_true rfl⟩) (List.Perm.of_eq (List.append_nil _).symm) rfl rfl (Nat.le_of_ble_eq_true rfl) dL_refuses_324 ⟨Nat.le_of_ble_eq_true rfl, Nat.le_of_ble_eq_true rfl⟩ (fun u15 hu15 => ?_)
                                  refine hv_weq (ws' := ob_W dA a L u15) (List.append_nil _) ?_
                                  refine hv_eqst (st' := [.int (zI (ob_er hx_IAE))]) rfl ?_
                                  refine hv_topi (y := zI (-9999002)) (by rw [ob_er_IAE]) ?_
                                  refine hv_ldc C dL_refuses_327 (hw_c tw_o_RL_18) ?_
                                  refine hv_topi (y := zI (-9999002)) (by decide +kernel) ?_
                                  refine hv_icmp_ne C dL_refuses_329 (tgt := 646) (by decide) (zI_ne (by omega)) (fun hc329 => ?_) (fun hc329 => ?_)
                                  · exact absurd hc329 (by omega)
                                  · refine hv_iload_n C dL_refuses_332 2 rfl ?_
                                    refine hv_iload_n C dL_refuses_333 3 rfl ?_
                                    refine hv_cut (σ := ob_H) (fun hh => ob_k hh) (fun hh => ob_W dA a L hh) (fun _ => [(5, .int (zI (lg L 0 - 1))), (4, .int (zI (-1 - x % 99))), (3, .int (zI (lg L 5))), (2, .int (zI (lg L 0))), (0, .ref (a 0)), (1, .int (zI (x)))]) [] 351 47 250 (fun hh hkh => ?_) (fun K9 => ?_)
                                    · refine hv_aload_n C dL_refuses_351 4 rfl ?_
                                      refine hv_bipush C dL_refuses_352 (v := zI (8)) (by decide +kernel) ?_
                                      refine hv_iload C dL_refuses_354 1 rfl ?_
                                      refine hv_iconst C dL_refuses_356 (v := zI (0)) rfl ?_
                                      refine hv_iconst C dL_refuses_357 (v := zI (0)) rfl ?_
                                      refine hz_callS (As := [.ref (a 0), .int (zI (8)), .int (zI (-1 - x % 99)), .int (zI (0)), .int (zI (0))]) (rest := []) (wc := ob_W dA a L hh) (wr := []) C X (k_R_water l D dA sa hst a L hh hJ hkh (-1 - x % 99) (by omega) (0) (0) hx_IOE (rq_wat (by omega))) (va_cwS 5 C.1.2.2.2.2 (hw_S tw_m_RL_132 tw_t_L_call tw_n_RL tw_k_L_call) rfl rfl rfl (by decide +kernel) ⟨Nat.le_of_ble_eq_true rfl, Nat.le_of_ble_eq_true rfl⟩) (List.Perm.of_eq (List.append_nil _).symm) rfl rfl (Nat.le_of_ble_eq_true rfl) dL_refuses_358 ⟨Nat.le_of_ble_eq_true rfl, Nat.le_of_ble_eq_true rfl⟩ (fun u16 hu16 => ?_)
                                      refine hv_weq (ws' := ob_W dA a L u16) (List.append_nil _) ?_
                                      refine hv_eqst (st' := [.int (zI (ob_er hx_IOE))]) rfl ?_
                                      refine hv_topi (y := zI (-9999001)) (by rw [ob_er_IOE]) ?_
                                      refine hv_ldc C dL_refuses_361 (hw_c tw_o_RL_15) ?_
                                      refine hv_topi (y := zI (-9999001)) (by decide +kernel) ?_
                                      refine hv_icmp_ne C dL_refuses_363 (tgt := 646) (by decide) (zI_ne (by omega)) (fun hc363 => ?_) (fun hc363 => ?_)
                                      · exact absurd hc363 (by omega)
                                      · refine hv_aload_n C dL_refuses_366 4 rfl ?_
                                        refine hv_bipush C dL_refuses_367 (v := zI (9)) (by decide +kernel) ?_
                                        refine hv_iconst C dL_refuses_369 (v := zI (3)) rfl ?_
                                        refine hv_iload_n C dL_refuses_370 5 rfl ?_
                                        refine hv_bipush C dL_refuses_371 (v := zI (9)) (by decide +kernel) ?_
                                        refine hv_irem C dL_refuses_373 (z := zI (x % 9)) ((zI_ne0 (by omega)).mpr (by omega)) ((zI_rem (by omega)).trans (zI_c (by omega))) ?_
                                        refine hv_iadd C dL_refuses_374 (z := zI (3 + x % 9)) ((zI_add _ _).trans (zI_c (by omega))) ?_
                                        refine hv_iconst C dL_refuses_375 (v := zI (0)) rfl ?_
                                        refine hv_iconst C dL_refuses_376 (v := zI (0)) rfl ?_
                                        refine hz_callS (As := [.ref (a 0), .int (zI (9)), .int (zI (3 + x % 9)), .int (zI (0)), .int (zI (0))]) (rest := []) (wc := ob_W dA a L u16) (wr := []) C X (k_R_wind l D dA sa hst a L u16 hJ hu16.1 (3 + x % 9) (by omega) (0) (0) hx_IAE (rq_wind (by omega))) (va_cwS 5 C.1.2.2.2.2 (hw_S tw_m_RL_132 tw_t_L_call tw_n_RL tw_k_L_call) rfl rfl rfl (by decide +kernel) ⟨Nat.le_of_ble_eq_true rfl, Nat.le_of_ble_eq_true rfl⟩) (List.Perm.of_eq (List.append_nil _).symm) rfl rfl (Nat.le_of_ble_eq_true rfl) dL_refuses_377 ⟨Nat.le_of_ble_eq_true rfl, Nat.le_of_ble_eq_true rfl⟩ (fun u17 hu17 => ?_)
                                        refine hv_weq (ws' := ob_W dA a L u17) (List.append_nil _) ?_
                                        refine hv_eqst (st' := [.int (zI (ob_er hx_IAE))]) rfl ?_
                                        refine hv_topi (y := zI (-9999002)) (by rw [ob_er_IAE]) ?_
                                        refine hv_ldc C dL_refuses_380 (hw_c tw_o_RL_18) ?_
                                        refine hv_topi (y := zI (-9999002)) (by decide +kernel) ?_
                                        refine hv_icmp_ne C dL_refuses_382 (tgt := 646) (by decide) (zI_ne (by omega)) (fun hc382 => ?_) (fun hc382 => ?_)
                                        · exact absurd hc382 (by omega)
                                        · refine hv_aload_n C dL_refuses_385 4 rfl ?_
                                          refine hv_bipush C dL_refuses_386 (v := zI (10)) (by decide +kernel) ?_
                                          refine hv_iconst C dL_refuses_388 (v := zI (0)) rfl ?_
                                          refine hv_iload_n C dL_refuses_389 5 rfl ?_
                                          refine hv_iconst C dL_refuses_390 (v := zI (2)) rfl ?_
                                          refine hv_irem C dL_refuses_391 (z := zI (x % 2)) ((zI_ne0 (by omega)).mpr (by omega)) ((zI_rem (by omega)).trans (zI_c (by omega))) ?_
                                          refine hv_if_ne C dL_refuses_392 (tgt := 399) (by decide) (zI_ne0 (by omega)) (fun hc392 => ?_) (fun hc392 => ?_)
                                          · exact absurd hc392 (by omega)
                                          · refine hv_iconst C dL_refuses_395 (v := zI (0)) rfl ?_
                                            refine hv_goto C dL_refuses_396 (tgt := 406) (by decide) ?_
                                            refine hv_iconst C dL_refuses_406 (v := zI (0)) rfl ?_
                                            refine hz_callS (As := [.ref (a 0), .int (zI (10)), .int (zI (0)), .int (zI (0)), .int (zI (0))]) (rest := []) (wc := ob_W dA a L u17) (wr := []) C X (k_R_lay l D dA sa hst a L u17 hJ hu17.1 (0) (by decide) (0) (by decide) (0) hx_IAE (rq_lay0 (by omega))) (va_cwS 5 C.1.2.2.2.2 (hw_S tw_m_RL_132 tw_t_L_call tw_n_RL tw_k_L_call) rfl rfl rfl (by decide +kernel) ⟨Nat.le_of_ble_eq_true rfl, Nat.le_of_ble_eq_true rfl⟩) (List.Perm.of_eq (List.append_nil _).symm) rfl rfl (Nat.le_of_ble_eq_true rfl) dL_refuses_407 ⟨Nat.le_of_ble_eq_true rfl, Nat.le_of_ble_eq_true rfl⟩ (fun u18 hu18 => ?_)
                                            refine hv_weq (ws' := ob_W dA a L u18) (List.append_nil _) ?_
                                            refine hv_eqst (st' := [.int (zI (ob_er hx_IAE))]) rfl ?_
                                            refine hv_topi (y := zI (-9999002)) (by rw [ob_er_IAE]) ?_
                                            refine hv_ldc C dL_refuses_410 (hw_c tw_o_RL_18) ?_
                                            refine hv_topi (y := zI (-9999002)) (by decide +kernel) ?_
                                            refine hv_icmp_ne C dL_refuses_412 (tgt := 646) (by decide) (zI_ne (by omega)) (fun hc412 => ?_) (fun hc412 => ?_)
                                            · exact absurd hc412 (by omega)
                                            · refine hv_aload_n C dL_refuses_415 4 rfl ?_
                                              refine hv_bipush C dL_refuses_416 (v := zI (10)) (by decide +kernel) ?_
                                              refine hv_iconst C dL_refuses_418 (v := zI (1)) rfl ?_
                                              refine hv_iload_n C dL_refuses_419 5 rfl ?_
                                              refine hv_iconst C dL_refuses_420 (v := zI (2)) rfl ?_
                                              refine hv_irem C dL_refuses_421 (z := zI (x % 2)) ((zI_ne0 (by omega)).mpr (by omega)) ((zI_rem (by omega)).trans (zI_c (by omega))) ?_
                                              refine hv_if_ne C dL_refuses_422 (tgt := 429) (by decide) (zI_ne0 (by omega)) (fun hc422 => ?_) (fun hc422 => ?_)
                                              · exact absurd hc422 (by omega)
                                              · refine hv_iconst C dL_refuses_425 (v := zI (0)) rfl ?_
                                                refine hv_goto C dL_refuses_426 (tgt := 435) (by decide) ?_
                                                refine hv_iconst C dL_refuses_435 (v := zI (0)) rfl ?_
                                                refine hz_callS (As := [.ref (a 0), .int (zI (10)), .int (zI (1)), .int (zI (0)), .int (zI (0))]) (rest := []) (wc := ob_W dA a L u18) (wr := []) C X (k_R_lay l D dA sa hst a L u18 hJ hu18.1 (1) (by decide) (0) (by decide) (0) hx_IAE (rq_lay1 (by omega))) (va_cwS 5 C.1.2.2.2.2 (hw_S tw_m_RL_132 tw_t_L_call tw_n_RL tw_k_L_call) rfl rfl rfl (by decide +kernel) ⟨Nat.le_of_ble_eq_true rfl, Nat.le_of_ble_eq_true rfl⟩) (List.Perm.of_eq (List.append_nil _).symm) rfl rfl (Nat.le_of_ble_eq_true rfl) dL_refuses_436 ⟨Nat.le_of_ble_eq_true rfl, Nat.le_of_ble_eq_true rfl⟩ (fun u19 hu19 => ?_)
                                                refine hv_weq (ws' := ob_W dA a L u19) (List.append_nil _) ?_
                                                refine hv_eqst (st' := [.int (zI (ob_er hx_IAE))]) rfl ?_
                                                refine hv_topi (y := zI (-9999002)) (by rw [ob_er_IAE]) ?_
                                                refine hv_ldc C dL_refuses_439 (hw_c tw_o_RL_18) ?_
                                                refine hv_topi (y := zI (-9999002)) (by decide +kernel) ?_
                                                refine hv_icmp_ne C dL_refuses_441 (tgt := 646) (by decide) (zI_ne (by omega)) (fun hc441 => ?_) (fun hc441 => ?_)
                                                · exact absurd hc441 (by omega)
                                                · refine hv_aload_n C dL_refuses_444 4 rfl ?_
                                                  refine hv_bipush C dL_refuses_445 (v := zI (10)) (by decide +kernel) ?_
                                                  refine hv_iconst C dL_refuses_447 (v := zI (2)) rfl ?_
                                                  refine hv_iload_n C dL_refuses_448 5 rfl ?_
                                                  refine hv_bipush C dL_refuses_449 (v := zI (9)) (by decide +kernel) ?_
                                                  refine hv_irem C dL_refuses_451 (z := zI (x % 9)) ((zI_ne0 (by omega)).mpr (by omega)) ((zI_rem (by omega)).trans (zI_c (by omega))) ?_
                                                  refine hv_iadd C dL_refuses_452 (z := zI (2 + x % 9)) ((zI_add _ _).trans (zI_c (by omega))) ?_
                                                  refine hv_iconst C dL_refuses_453 (v := zI (1)) rfl ?_
                                                  refine hv_iconst C dL_refuses_454 (v := zI (0)) rfl ?_
                                                  refine hz_callS (As := [.ref (a 0), .int (zI (10)), .int (zI (2 + x % 9)), .int (zI (1)), .int (zI (0))]) (rest := []) (wc := ob_W dA a L u19) (wr := []) C X (k_R_lay l D dA sa hst a L u19 hJ hu19.1 (2 + x % 9) (by omega) (1) (by decide) (0) hx_IAE (rq_lay (by omega))) (va_cwS 5 C.1.2.2.2.2 (hw_S tw_m_RL_132 tw_t_L_call tw_n_RL tw_k_L_call) rfl rfl rfl (by decide +kernel) ⟨Nat.le_of_ble_eq_true rfl, Nat.le_of_ble_eq_true rfl⟩) (List.Perm.of_eq (List.append_nil _).symm) rfl rfl (Nat.le_of_ble_eq_true rfl) dL_refuses_455 ⟨Nat.le_of_ble_eq_true rfl, Nat.le_of_ble_eq_true rfl⟩ (fun u20 hu20 => ?_)
                                                  refine hv_weq (ws' := ob_W dA a L u20) (List.append_nil _) ?_
                                                  refine hv_eqst (st' := [.int (zI (ob_er hx_IAE))]) rfl ?_
                                                  refine hv_topi (y := zI (-9999002)) (by rw [ob_er_IAE]) ?_
                                                  refine hv_ldc C dL_refuses_458 (hw_c tw_o_RL_18) ?_
                                                  refine hv_topi (y := zI (-9999002)) (by decide +kernel) ?_
                                                  refine hv_icmp_ne C dL_refuses_460 (tgt := 646) (by decide) (zI_ne (by omega)) (fun hc460 => ?_) (fun hc460 => ?_)
                                                  · exact absurd hc460 (by omega)
                                                  · refine hv_aload_n C dL_refuses_463 4 rfl ?_
                                                    refine hv_iload C dL_refuses_464 1 rfl ?_
                                                    refine hv_iconst C dL_refuses_466 (v := zI (0)) rfl ?_
                                                    refine hv_iconst C dL_refuses_467 (v := zI (1)) rfl ?_
                                                    refine hv_bipush C dL_refuses_468 (v := zI (9)) (by decide +kernel) ?_
                                                    refine hy_callS (As := [.ref (a 0), .int (zI (-1 - x % 99)), .int (zI (0)), .int (zI (1)), .int (zI (9))]) (rest := []) (wc := ob_W dA a L u20) (wr := []) C X (k_T_would_x l D dA sa hst a L u20 hJ hu20.1 (-1 - x % 99) (by omega) (0) (by decide) (1) (by decide) (9) (by decide) hx_IOE (xc_or_s (rq_1 (by omega)))) (vx_cwSW 5 C.1.2.2.2.2 (hw_SH tw_m_RL_136 tw_t_L_would tw_n_RL tw_k_L_would) rfl rfl rfl (by decide +kernel) ⟨Nat.le_of_ble_eq_true rfl, Nat.le_of_ble_eq_true rfl⟩) (List.Perm.of_eq (List.append_nil _).symm) rfl rfl (Nat.le_of_ble_eq_true rfl) dL_refuses_470 ⟨Nat.le_of_ble_eq_true rfl, Nat.le_of_ble_eq_true rfl⟩ (fun u21 hu21 => ?_)
                                                    refine hv_weq (ws' := ob_W dA a L u21) (List.append_nil _) ?_
                                                    refine hv_eqst (st' := [.int (zI (ob_er hx_IOE))]) rfl ?_
                                                    refine hv_topi (y := zI (-9999001)) (by rw [ob_er_IOE]) ?_
                                                    refine hv_ldc C dL_refuses_473 (hw_c tw_o_RL_15) ?_
                                                    refine hv_topi (y := zI (-9999001)) (by decide +kernel) ?_
                                                    refine hv_icmp_ne C dL_refuses_475 (tgt := 646) (by decide) (zI_ne (by omega)) (fun hc475 => ?_) (fun hc475 => ?_)
                                                    · exact absurd hc475 (by omega)
                                                    · refine hv_aload_n C dL_refuses_478 4 rfl ?_
                                                      refine hv_iconst C dL_refuses_479 (v := zI (0)) rfl ?_
                                                      refine hv_iconst C dL_refuses_480 (v := zI (0)) rfl ?_
                                                      refine hv_iconst C dL_refuses_481 (v := zI (1)) rfl ?_
                                                      refine hv_iconst C dL_refuses_482 (v := zI (4)) rfl ?_
                                                      refine hv_iload_n C dL_refuses_483 5 rfl ?_
                                                      refine hv_bipush C dL_refuses_484 (v := zI (9)) (by decide +kernel) ?_
                                                      refine hv_irem C dL_refuses_486 (z := zI (x % 9)) ((zI_ne0 (by omega)).mpr (by omega)) ((zI_rem (by omega)).trans (zI_c (by omega))) ?_
                                                      refine hv_iadd C dL_refuses_487 (z := zI (4 + x % 9)) ((zI_add _ _).trans (zI_c (by omega))) ?_
                                                      refine hy_callS (As := [.ref (a 0), .int (zI (0)), .int (zI (0)), .int (zI (1)), .int (zI (4 + x % 9))]) (rest := []) (wc := ob_W dA a L u21) (wr := []) C X (k_T_would_x l D dA sa hst a L u21 hJ hu21.1 (0) (by decide) (0) (by decide) (1) (by decide) (4 + x % 9) (by omega) hx_IAE (rq_i (by omega) (by omega))) (vx_cwSW 5 C.1.2.2.2.2 (hw_SH tw_m_RL_136 tw_t_L_would tw_n_RL tw_k_L_would) rfl rfl rfl (by decide +kernel) ⟨Nat.le_of_ble_eq_true rfl, Nat.le_of_ble_eq_true rfl⟩) (List.Perm.of_eq (List.append_nil _).symm) rfl rfl (Nat.le_of_ble_eq_true rfl) dL_refuses_488 ⟨Nat.le_of_ble_eq_true rfl, Nat.le_of_ble_eq_true rfl⟩ (fun u22 hu22 => ?_)
                                                      refine hv_weq (ws' := ob_W dA a L u22) (List.append_nil _) ?_
                                                      refine hv_eqst (st' := [.int (zI (ob_er hx_IAE))]) rfl ?_
                                                      refine hv_topi (y := zI (-9999002)) (by rw [ob_er_IAE]) ?_
                                                      refine hv_ldc C dL_refuses_491 (hw_c tw_o_RL_18) ?_
                                                      refine hv_topi (y := zI (-9999002)) (by decide +kernel) ?_
                                                      refine hv_icmp_ne C dL_refuses_493 (tgt := 646) (by decide) (zI_ne (by omega)) (fun hc493 => ?_) (fun hc493 => ?_)
                                                      · exact absurd hc493 (by omega)
                                                      · refine hv_aload_n C dL_refuses_496 4 rfl ?_
                                                        refine hv_iload C dL_refuses_497 0 rfl ?_
                                                        refine hv_iconst C dL_refuses_499 (v := zI (0)) rfl ?_
                                                        refine hv_iconst C dL_refuses_500 (v := zI (1)) rfl ?_
                                                        refine hv_iconst C dL_refuses_501 (v := zI (0)) rfl ?_
                                                        refine hy_callS (As := [.ref (a 0), .int (zI (lg L 0 - 1)), .int (zI (0)), .int (zI (1)), .int (zI (0))]) (rest := []) (wc := ob_W dA a L u22) (wr := []) C X (k_T_would_x l D dA sa hst a L u22 hJ hu22.1 (lg L 0 - 1) (by omega) (0) (by decide) (1) (by decide) (0) (by decide) hx_IAE (xc_or_s (rq_3 (by omega) (by omega) (by omega)))) (vx_cwSW 5 C.1.2.2.2.2 (hw_SH tw_m_RL_136 tw_t_L_would tw_n_RL tw_k_L_would) rfl rfl rfl (by decide +kernel) ⟨Nat.le_of_ble_eq_true rfl, Nat.le_of_ble_eq_true rfl⟩) (List.Perm.of_eq (List.append_nil _).symm) rfl rfl (Nat.le_of_ble_eq_true rfl) dL_refuses_502 ⟨Nat.le_of_ble_eq_true rfl, Nat.le_of_ble_eq_true rfl⟩ (fun u23 hu23 => ?_)
                                                        refine hv_weq (ws' := ob_W dA a L u23) (List.append_nil _) ?_
                                                        refine hv_eqst (st' := [.int (zI (ob_er hx_IAE))]) rfl ?_
                                                        refine hv_topi (y := zI (-9999002)) (by rw [ob_er_IAE]) ?_
                                                        refine hv_ldc C dL_refuses_505 (hw_c tw_o_RL_18) ?_
                                                        refine hv_topi (y := zI (-9999002)) (by decide +kernel) ?_
                                                        refine hv_icmp_ne C dL_refuses_507 (tgt := 646) (by decide) (zI_ne (by omega)) (fun hc507 => ?_) (fun hc507 => ?_)
                                                        · exact absurd hc507 (by omega)
                                                        · refine hv_aload_n C dL_refuses_510 4 rfl ?_
                                                          refine hv_bipush C dL_refuses_511 (v := zI (12)) (by decide +kernel) ?_
                                                          refine hv_iload_n C dL_refuses_513 5 rfl ?_
                                                          refine hv_iconst C dL_refuses_514 (v := zI (2)) rfl ?_
                                                          refine hv_irem C dL_refuses_515 (z := zI (x % 2)) ((zI_ne0 (by omega)).mpr (by omega)) ((zI_rem (by omega)).trans (zI_c (by omega))) ?_
                                                          refine hv_if_ne C dL_refuses_516 (tgt := 523) (by decide) (zI_ne0 (by omega)) (fun hc516 => ?_) (fun hc516 => ?_)
                                                          · exact absurd hc516 (by omega)
                                                          · refine hv_iconst C dL_refuses_519 (v := zI (0)) rfl ?_
                                                            refine hv_goto C dL_refuses_520 (tgt := 530) (by decide) ?_
                                                            refine hv_iconst C dL_refuses_530 (v := zI (0)) rfl ?_
                                                            refine hv_iconst C dL_refuses_531 (v := zI (0)) rfl ?_
                                                            refine hz_callS (As := [.ref (a 0), .int (zI (12)), .int (zI (0)), .int (zI (0)), .int (zI (0))]) (rest := []) (wc := ob_W dA a L u23) (wr := []) C X (k_C_goes_x l D dA sa hst a L u23 hJ hu23.1 (0) (by decide) (0) (by decide) (0) hx_IAE (rq_go (by omega))) (va_cwS 5 C.1.2.2.2.2 (hw_S tw_m_RL_132 tw_t_L_call tw_n_RL tw_k_L_call) rfl rfl rfl (by decide +kernel) ⟨Nat.le_of_ble_eq_true rfl, Nat.le_of_ble_eq_true rfl⟩) (List.Perm.of_eq (List.append_nil _).symm) rfl rfl (Nat.le_of_ble_eq_true rfl) dL_refuses_532 ⟨Nat.le_of_ble_eq_true rfl, Nat.le_of_ble_eq_true rfl⟩ (fun u24 hu24 => ?_)
                                                            refine hv_weq (ws' := ob_W dA a L u24) (List.append_nil _) ?_
                                                            refine hv_eqst (st' := [.int (zI (ob_er hx_IAE))]) rfl ?_
                                                            refine hv_topi (y := zI (-9999002)) (by rw [ob_er_IAE]) ?_
                                                            refine hv_ldc C dL_refuses_535 (hw_c tw_o_RL_18) ?_
                                                            refine hv_topi (y := zI (-9999002)) (by decide +kernel) ?_
                                                            refine hv_icmp_ne C dL_refuses_537 (tgt := 646) (by decide) (zI_ne (by omega)) (fun hc537 => ?_) (fun hc537 => ?_)
                                                            · exact absurd hc537 (by omega)
                                                            · refine hv_aload_n C dL_refuses_540 4 rfl ?_
                                                              refine hv_bipush C dL_refuses_541 (v := zI (12)) (by decide +kernel) ?_
                                                              refine hv_iconst C dL_refuses_543 (v := zI (5)) rfl ?_
                                                              refine hv_iconst C dL_refuses_544 (v := zI (2)) rfl ?_
                                                              refine hv_iload_n C dL_refuses_545 5 rfl ?_
                                                              refine hv_bipush C dL_refuses_546 (v := zI (9)) (by decide +kernel) ?_
                                                              refine hv_irem C dL_refuses_548 (z := zI (x % 9)) ((zI_ne0 (by omega)).mpr (by omega)) ((zI_rem (by omega)).trans (zI_c (by omega))) ?_
                                                              refine hv_iadd C dL_refuses_549 (z := zI (2 + x % 9)) ((zI_add _ _).trans (zI_c (by omega))) ?_
                                                              refine hv_iconst C dL_refuses_550 (v := zI (0)) rfl ?_
                                                              refine hz_callS (As := [.ref (a 0), .int (zI (12)), .int (zI (5)), .int (zI (2 + x % 9)), .int (zI (0))]) (rest := []) (wc := ob_W dA a L u24) (wr := []) C X (k_C_goes_x l D dA sa hst a L u24 hJ hu24.1 (5) (by decide) (2 + x % 9) (by omega) (0) hx_IAE (rq_go2 (by omega) (by omega))) (va_cwS 5 C.1.2.2.2.2 (hw_S tw_m_RL_132 tw_t_L_call tw_n_RL tw_k_L_call) rfl rfl rfl (by decide +kernel) ⟨Nat.le_of_ble_eq_true rfl, Nat.le_of_ble_eq_true rfl⟩) (List.Perm.of_eq (List.append_nil _).symm) rfl rfl (Nat.le_of_ble_eq_true rfl) dL_refuses_551 ⟨Nat.le_of_ble_eq_true rfl, Nat.le_of_ble_eq_true rfl⟩ (fun u25 hu25 => ?_)
                                                              refine hv_weq (ws' := ob_W dA a L u25) (List.append_nil _) ?_
                                                              refine hv_eqst (st' := [.int (zI (ob_er hx_IAE))]) rfl ?_
                                                              refine hv_topi (y := zI (-9999002)) (by rw [ob_er_IAE]) ?_
                                                              refine hv_ldc C dL_refuses_554 (hw_c tw_o_RL_18) ?_
                                                              refine hv_topi (y := zI (-9999002)) (by decide +kernel) ?_
                                                              refine hv_icmp_ne C dL_refuses_556 (tgt := 646) (by decide) (zI_ne (by omega)) (fun hc556 => ?_) (fun hc556 => ?_)
                                                              · exact absurd hc556 (by omega)
                                                              · refine hv_aload_n C dL_refuses_559 4 rfl ?_
                                                                refine hv_bipush C dL_refuses_560 (v := zI (13)) (by decide +kernel) ?_
                                                                refine hv_iconst C dL_refuses_562 (v := zI (2)) rfl ?_
                                                                refine hv_iload_n C dL_refuses_563 5 rfl ?_
                                                                refine hv_bipush C dL_refuses_564 (v := zI (50)) (by decide +kernel) ?_
                                                                refine hv_irem C dL_refuses_566 (z := zI (x % 50)) ((zI_ne0 (by omega)).mpr (by omega)) ((zI_rem (by omega)).trans (zI_c (by omega))) ?_
                                                                refine hv_iadd C dL_refuses_567 (z := zI (2 + x % 50)) ((zI_add _ _).trans (zI_c (by omega))) ?_
                                                                refine hv_iconst C dL_refuses_568 (v := zI (0)) rfl ?_
                                                                refine hv_iconst C dL_refuses_569 (v := zI (0)) rfl ?_
                                                                refine hz_callS (As := [.ref (a 0), .int (zI (13)), .int (zI (2 + x % 50)), .int (zI (0)), .int (zI (0))]) (rest := []) (wc := ob_W dA a L u25) (wr := []) C X (k_R_keep l D dA sa hst a L u25 hJ hu25.1 (2 + x % 50) (by omega) (0) (0) hx_IOE (rq_slot (by omega))) (va_cwS 5 C.1.2.2.2.2 (hw_S tw_m_RL_132 tw_t_L_call tw_n_RL tw_k_L_call) rfl rfl rfl (by decide +kernel) ⟨Nat.le_of_ble_eq_true rfl, Nat.le_of_ble_eq_true rfl⟩) (List.Perm.of_eq (List.append_nil _).symm) rfl rfl (Nat.le_of_ble_eq_true rfl) dL_refuses_570 ⟨Nat.le_of_ble_eq_true rfl, Nat.le_of_ble_eq_true rfl⟩ (fun u26 hu26 => ?_)
                                                                refine hv_weq (ws' := ob_W dA a L u26) (List.append_nil _) ?_
                                                                refine hv_eqst (st' := [.int (zI (ob_er hx_IOE))]) rfl ?_
                                                                refine hv_topi (y := zI (-9999001)) (by rw [ob_er_IOE]) ?_
                                                                refine hv_ldc C dL_refuses_573 (hw_c tw_o_RL_15) ?_
                                                                refine hv_topi (y := zI (-9999001)) (by decide +kernel) ?_
                                                                refine hv_icmp_ne C dL_refuses_575 (tgt := 646) (by decide) (zI_ne (by omega)) (fun hc575 => ?_) (fun hc575 => ?_)
                                                                · exact absurd hc575 (by omega)
                                                                · refine hv_aload_n C dL_refuses_578 4 rfl ?_
                                                                  refine hv_bipush C dL_refuses_579 (v := zI (14)) (by decide +kernel) ?_
                                                                  refine hv_iconst C dL_refuses_581 (v := zI (-1)) rfl ?_
                                                                  refine hv_iload_n C dL_refuses_582 5 rfl ?_
                                                                  refine hv_bipush C dL_refuses_583 (v := zI (9)) (by decide +kernel) ?_
                                                                  refine hv_irem C dL_refuses_585 (z := zI (x % 9)) ((zI_ne0 (by omega)).mpr (by omega)) ((zI_rem (by omega)).trans (zI_c (by omega))) ?_
                                                                  refine hv_isub C dL_refuses_586 (z := zI (-1 - x % 9)) ((zI_sub _ _).trans (zI_c (by omega))) ?_
                                                                  refine hv_iconst C dL_refuses_587 (v := zI (0)) rfl ?_
                                                                  refine hv_iconst C dL_refuses_588 (v := zI (0)) rfl ?_
                                                                  refine hz_callS (As := [.ref (a 0), .int (zI (14)), .int (zI (-1 - x % 9)), .int (zI (0)), .int (zI (0))]) (rest := []) (wc := ob_W dA a L u26) (wr := []) C X (k_R_back l D dA sa hst a L u26 hJ hu26.1 (-1 - x % 9) (by omega) (0) (0) hx_IOE (rq_rest (by omega))) (va_cwS 5 C.1.2.2.2.2 (hw_S tw_m_RL_132 tw_t_L_call tw_n_RL tw_k_L_call) rfl rfl rfl (by decide +kernel) ⟨Nat.le_of_ble_eq_true rfl, Nat.le_of_ble_eq_true rfl⟩) (List.Perm.of_eq (List.append_nil _).symm) rfl rfl (Nat.le_of_ble_eq_true rfl) dL_refuses_589 ⟨Nat.le_of_ble_eq_true rfl, Nat.le_of_ble_eq_true rfl⟩ (fun u27 hu27 => ?_)
                                                                  refine hv_weq (ws' := ob_W dA a L u27) (List.append_nil _) ?_
                                                                  refine hv_eqst (st' := [.int (zI (ob_er hx_IOE))]) rfl ?_
                                                                  refine hv_topi (y := zI (-9999001)) (by rw [ob_er_IOE]) ?_
                                                                  refine hv_ldc C dL_refuses_592 (hw_c tw_o_RL_15) ?_
                                                                  refine hv_topi (y := zI (-9999001)) (by decide +kernel) ?_
                                                                  refine hv_icmp_ne C dL_refuses_594 (tgt := 646) (by decide) (zI_ne (by omega)) (fun hc594 => ?_) (fun hc594 => ?_)
                                                                  · exact absurd hc594 (by omega)
                                                                  · refine hv_aload_n C dL_refuses_597 4 rfl ?_
                                                                    refine hv_iconst C dL_refuses_598 (v := zI (0)) rfl ?_
                                                                    refine hv_lconst C dL_refuses_599 (v := 0) rfl ?_
                                                                    refine hy_callS (As := [.ref (a 0), .int (zI (0)), .long (0)]) (rest := []) (wc := ob_W dA a L u27) (wr := []) C X (k_T_script_x l D dA sa hst a L u27 hJ hu27.1 (0) (by decide) 0 hx_IAE (rq_run (by omega))) (vx_cwSW 3 C.1.2.2.2.2 (hw_SH tw_m_RL_139 tw_t_L_doScript tw_n_RL tw_k_L_doScript) rfl rfl rfl (by decide +kernel) ⟨Nat.le_of_ble_eq_true rfl, Nat.le_of_ble_eq_true rfl⟩) (List.Perm.of_eq (List.append_nil _).symm) rfl rfl (Nat.le_of_ble_eq_true rfl) dL_refuses_600 ⟨Nat.le_of_ble_eq_true rfl, Nat.le_of_ble_eq_true rfl⟩ (fun u28 hu28 => ?_)
                                                                    refine hv_weq (ws' := ob_W dA a L u28) (List.append_nil _) ?_
                                                                    refine hv_eqst (st' := [.int (zI (ob_er hx_IAE))]) rfl ?_
                                                                    refine hv_topi (y := zI (-9999002)) (by rw [ob_er_IAE]) ?_
                                                                    refine hv_ldc C dL_refuses_603 (hw_c tw_o_RL_18) ?_
                                                                    refine hv_topi (y := zI (-9999002)) (by decide +kernel) ?_
                                                                    refine hv_icmp_ne C dL_refuses_605 (tgt := 646) (by decide) (zI_ne (by omega)) (fun hc605 => ?_) (fun hc605 => ?_)
                                                                    · exact absurd hc605 (by omega)
                                                                    · refine hv_aload_n C dL_refuses_608 4 rfl ?_
                                                                      refine hv_iconst C dL_refuses_609 (v := zI (1)) rfl ?_
                                                                      refine hv_ldc2 C dL_refuses_610 (hw_c tw_o_RL_143) ?_
                                                                      refine hv_iload_n C dL_refuses_613 5 rfl ?_
                                                                      refine hv_i2l C dL_refuses_614 (v := ((zI x).toInt64)) (by rfl) ?_
                                                                      refine hv_ladd C dL_refuses_615 (z := (10000 + (zI x).toInt64)) (by rfl) ?_
                                                                      refine hy_callS (As := [.ref (a 0), .int (zI (1)), .long (10000 + (zI x).toInt64)]) (rest := []) (wc := ob_W dA a L u28) (wr := []) C X (k_T_script_x l D dA sa hst a L u28 hJ hu28.1 (1) (by decide) (10000 + (zI x).toInt64) hx_IAE (rq_run1 hx)) (vx_cwSW 3 C.1.2.2.2.2 (hw_SH tw_m_RL_139 tw_t_L_doScript tw_n_RL tw_k_L_doScript) rfl rfl rfl (by decide +kernel) ⟨Nat.le_of_ble_eq_true rfl, Nat.le_of_ble_eq_true rfl⟩) (List.Perm.of_eq (List.append_nil _).symm) rfl rfl (Nat.le_of_ble_eq_true rfl) dL_refuses_616 ⟨Nat.le_of_ble_eq_true rfl, Nat.le_of_ble_eq_true rfl⟩ (fun u29 hu29 => ?_)
                                                                      refine hv_weq (ws' := ob_W dA a L u29) (List.append_nil _) ?_
                                                                      refine hv_eqst (st' := [.int (zI (ob_er hx_IAE))]) rfl ?_
                                                                      refine hv_topi (y := zI (-9999002)) (by rw [ob_er_IAE]) ?_
                                                                      refine hv_ldc C dL_refuses_619 (hw_c tw_o_RL_18) ?_
                                                                      refine hv_topi (y := zI (-9999002)) (by decide +kernel) ?_
                                                                      refine hv_icmp_ne C dL_refuses_621 (tgt := 646) (by decide) (zI_ne (by omega)) (fun hc621 => ?_) (fun hc621 => ?_)
                                                                      · exact absurd hc621 (by omega)
                                                                      · refine hv_aload_n C dL_refuses_624 4 rfl ?_
                                                                        refine hv_iload_n C dL_refuses_625 5 rfl ?_
                                                                        refine hv_i2l C dL_refuses_626 (v := ((zI x).toInt64)) (by rfl) ?_
                                                                        refine hv_bipush C dL_refuses_627 (v := zI (61)) (by decide +kernel) ?_
                                                                        refine hv_iload_n C dL_refuses_629 5 rfl ?_
                                                                        refine hv_bipush C dL_refuses_630 (v := zI (9)) (by decide +kernel) ?_
                                                                        refine hv_irem C dL_refuses_632 (z := zI (x % 9)) ((zI_ne0 (by omega)).mpr (by omega)) ((zI_rem (by omega)).trans (zI_c (by omega))) ?_
                                                                        refine hv_iadd C dL_refuses_633 (z := zI (61 + x % 9)) ((zI_add _ _).trans (zI_c (by omega))) ?_
                                                                        refine hy_callS (As := [.ref (a 0), .long ((zI x).toInt64), .int (zI (61 + x % 9))]) (rest := []) (wc := ob_W dA a L u29) (wr := []) C X (k_R_sim l D dA sa hst a L u29 hJ hu29.1 (61 + x % 9) (by omega) ((zI x).toInt64) hx_IAE (rq_sim (by omega))) (vx_cwSW 3 C.1.2.2.2.2 (hw_SH tw_m_RL_145 tw_t_L_doSimulate tw_n_RL tw_k_L_doSimulate) rfl rfl rfl (by decide +kernel) ⟨Nat.le_of_ble_eq_true rfl, Nat.le_of_ble_eq_true rfl⟩) (List.Perm.of_eq (List.append_nil _).symm) rfl rfl (Nat.le_of_ble_eq_true rfl) dL_refuses_634 ⟨Nat.le_of_ble_eq_true rfl, Nat.le_of_ble_eq_true rfl⟩ (fun u30 hu30 => ?_)
                                                                        refine hv_weq (ws' := ob_W dA a L u30) (List.append_nil _) ?_
                                                                        refine hv_eqst (st' := [.int (zI (ob_er hx_IAE))]) rfl ?_
                                                                        refine hv_topi (y := zI (-9999002)) (by rw [ob_er_IAE]) ?_
                                                                        refine hv_ldc C dL_refuses_637 (hw_c tw_o_RL_18) ?_
                                                                        refine hv_topi (y := zI (-9999002)) (by decide +kernel) ?_
                                                                        refine hv_icmp_ne C dL_refuses_639 (tgt := 646) (by decide) (zI_ne (by omega)) (fun hc639 => ?_) (fun hc639 => ?_)
                                                                        · exact absurd hc639 (by omega)
                                                                        · refine hv_iconst C dL_refuses_642 (v := zI (1)) rfl ?_
                                                                          refine hv_goto C dL_refuses_643 (tgt := 647) (by decide) ?_
                                                                          exact hv_iret C M dL_refuses_647 rfl zB_n1 u30 hu30.1 rfl [] (List.Perm.of_eq (List.append_nil _).symm) (Nat.le_of_ble_eq_true rfl) (Nat.le_of_ble_eq_true rfl)
                                    · refine hv_icmp_ge C dL_refuses_334 (tgt := 351) (by decide) (zI_le (by omega)) (fun hc334 => ?_) (fun hc334 => ?_)
                                      · refine hv_widen (ce' := 47) (sl' := 250) (Nat.le_of_ble_eq_true rfl) (Nat.le_of_ble_eq_true rfl) ?_
                                        exact K9 u15 hu15.1
                                      · refine hv_aload_n C dL_refuses_337 4 rfl ?_
                                        refine hv_bipush C dL_refuses_338 (v := zI (7)) (by decide +kernel) ?_
                                        refine hv_iconst C dL_refuses_340 (v := zI (0)) rfl ?_
                                        refine hv_iload_n C dL_refuses_341 2 rfl ?_
                                        refine hv_iconst C dL_refuses_342 (v := zI (1)) rfl ?_
                                        refine hz_callS (As := [.ref (a 0), .int (zI (7)), .int (zI (0)), .int (zI (lg L 5)), .int (zI (1))]) (rest := []) (wc := ob_W dA a L u15) (wr := []) C X (k_R_clip l D dA sa hst a L u15 hJ hu15.1 (0) (by decide) (lg L 5) (by omega) (1) (by decide) hx_IAE (xc_or_s (rq_3 (by omega) (by omega) (by omega)))) (va_cwS 5 C.1.2.2.2.2 (hw_S tw_m_RL_132 tw_t_L_call tw_n_RL tw_k_L_call) rfl rfl rfl (by decide +kernel) ⟨Nat.le_of_ble_eq_true rfl, Nat.le_of_ble_eq_true rfl⟩) (List.Perm.of_eq (List.append_nil _).symm) rfl rfl (Nat.le_of_ble_eq_true rfl) dL_refuses_343 ⟨Nat.le_of_ble_eq_true rfl, Nat.le_of_ble_eq_true rfl⟩ (fun u31 hu31 => ?_)
                                        refine hv_weq (ws' := ob_W dA a L u31) (List.append_nil _) ?_
                                        refine hv_eqst (st' := [.int (zI (ob_er hx_IAE))]) rfl ?_
                                        refine hv_topi (y := zI (-9999002)) (by rw [ob_er_IAE]) ?_
                                        refine hv_ldc C dL_refuses_346 (hw_c tw_o_RL_18) ?_
                                        refine hv_topi (y := zI (-9999002)) (by decide +kernel) ?_
                                        refine hv_icmp_ne C dL_refuses_348 (tgt := 646) (by decide) (zI_ne (by omega)) (fun hc348 => ?_) (fun hc348 => ?_)
                                        · exact absurd hc348 (by omega)
                                        · refine hv_widen (ce' := 47) (sl' := 250) (Nat.le_of_ble_eq_true rfl) (Nat.le_of_ble_eq_true rfl) ?_
                                          exact K9 u31 hu31.1

