theorem mz_cls1 : ∀ S : Nat, S < 7 → ∀ r : Nat, r < 4 → (wo_cls S r).all (fun c9 => decide (c9 / 10 % 10 < S ∧ c9 / 100 ≤ c9 / 10 % 10 ∧ c9 / 10 % 10 - c9 / 100 < r ∧ 1 ≤ c9 % 10 ∧ c9 % 10 ≤ 3 ∧ c9 < 1000)) = true := by decide +kernel
theorem mz_cls (S : Nat) (hS : S < 7) (r : Nat) (hr : r < 4) (c9 : Nat) (h : c9 ∈ wo_cls S r) : c9 / 10 % 10 < S ∧ c9 / 100 ≤ c9 / 10 % 10 ∧ c9 / 10 % 10 - c9 / 100 < r ∧ 1 ≤ c9 % 10 ∧ c9 % 10 ≤ 3 ∧ c9 < 1000 := of_decide_eq_true (List.all_eq_true.mp (mz_cls1 S hS r hr) c9 h)

set_option maxHeartbeats 4000000 in
set_option maxRecDepth 100000 in
theorem k_X9_thrown (l : Launch) (D : va_G) (dA : Nat → ClassId) (m9 xt nw tr di ke ik wt : Nat) (rf sz ac ld sp ou : Int) : hv_Ct l yX9_thrown (hw_W yX9_thrown cX9_thrown 1 (some .int)) 0 D dA [.ref m9] ([(m9, .inr (7, [.int (zI (rf)), .ref xt, .int (zI (sz)), .ref nw, .ref tr, .ref di, .int (zI (ac)), .ref ke, .ref ik, .ref wt, .int (zI (ld)), .int (zI (sp)), .int (zI (ou))]))]) 0 0 (S := Unit) (fun _ => some (.int (zI (rf)))) (fun _ => True) (fun _ => [(m9, .inr (7, [.int (zI (rf)), .ref xt, .int (zI (sz)), .ref nw, .ref tr, .ref di, .int (zI (ac)), .ref ke, .ref ik, .ref wt, .int (zI (ld)), .int (zI (sp)), .int (zI (ou))]))]) := by
  refine hv_of (cc := cX9_thrown) (maxL := 1) (ret := (some .int)) (own := RX9) rfl (by decide) rfl (Nat.le_of_ble_eq_true rfl) ?_
  intro p e s m args below meth c C M
  refine hv_lveq (lv' := [(0, .ref m9)]) rfl ?_
  refine hv_aload_n C dX9_thrown_0 0 rfl ?_
  refine hv_get C dX9_thrown_1 (fun w h => hw_c (tw_u_9 w h)) 0 (ci := 7) rfl rfl 0 (by decide) (hw_c tw_f_RX9_40) rfl ?_
  exact hv_iret C M dX9_thrown_4 rfl rfl () trivial rfl [] (List.Perm.of_eq (by first | rfl | exact (List.append_nil _).symm)) (Nat.le_refl _) (Nat.le_refl _)

set_option maxHeartbeats 4000000 in
set_option maxRecDepth 100000 in
theorem k_X9_refused (l : Launch) (D : va_G) (dA : Nat → ClassId) (m9 xt nw tr di ke ik wt : Nat) (rf sz ac ld sp ou : Int) (z : Int) (hz : 0 ≤ z ∧ z < 100) : hv_Ct l yX9_refused (hw_W yX9_refused cX9_refused 2 (some .boolean)) 0 D dA [.ref m9, .int (zI (z))] ([(m9, .inr (7, [.int (zI (rf)), .ref xt, .int (zI (sz)), .ref nw, .ref tr, .ref di, .int (zI (ac)), .ref ke, .ref ik, .ref wt, .int (zI (ld)), .int (zI (sp)), .int (zI (ou))]))]) 0 0 (S := Unit) (fun _ => some (.int (zI (zB (decide (0 < z)))))) (fun _ => True) (fun _ => [(m9, .inr (7, [.int (zI (z)), .ref xt, .int (zI (sz)), .ref nw, .ref tr, .ref di, .int (zI (ac)), .ref ke, .ref ik, .ref wt, .int (zI (ld)), .int (zI (sp)), .int (zI (ou))]))]) := by
  refine hv_of (cc := cX9_refused) (maxL := 2) (ret := (some .boolean)) (own := RX9) rfl (by decide) rfl (Nat.le_of_ble_eq_true rfl) ?_
  intro p e s m args below meth c C M
  refine hv_lveq (lv' := [(0, .ref m9), (1, .int (zI (z)))]) rfl ?_
  refine hv_aload_n C dX9_refused_0 0 rfl ?_
  refine hv_iload_n C dX9_refused_1 1 rfl ?_
  refine hv_put C dX9_refused_2 (fun w h => hw_c (tw_u_9 w h)) tyX9 tyX9_ok nmX9 0 (ci := 7) (ty := .int) rfl rfl 0 (by decide) (hw_c tw_f_RX9_40) rfl rfl rfl rfl (Nat.le_of_ble_eq_true rfl) ?_
  refine hv_weq (ws' := [(m9, .inr (7, [.int (zI (z)), .ref xt, .int (zI (sz)), .ref nw, .ref tr, .ref di, .int (zI (ac)), .ref ke, .ref ik, .ref wt, .int (zI (ld)), .int (zI (sp)), .int (zI (ou))]))]) rfl ?_
  refine hv_iload_n C dX9_refused_5 1 rfl ?_
  refine hv_if_le C dX9_refused_6 (tgt := 13) (by decide) (zI_le0 (by omega)) (fun hc6 => ?_) (fun hc6 => ?_)
  · refine hv_iconst C dX9_refused_13 (v := zI (0)) rfl ?_
    exact hv_iret C M dX9_refused_14 rfl zB_n2 () trivial (hv_rv (zB_F (by omega))) [] (List.Perm.of_eq (by first | rfl | exact (List.append_nil _).symm)) (Nat.le_refl _) (Nat.le_refl _)
  · refine hv_iconst C dX9_refused_9 (v := zI (1)) rfl ?_
    refine hv_goto C dX9_refused_10 (tgt := 14) (by decide) ?_
    exact hv_iret C M dX9_refused_14 rfl zB_n1 () trivial (hv_rv (zB_T (by omega))) [] (List.Perm.of_eq (by first | rfl | exact (List.append_nil _).symm)) (Nat.le_refl _) (Nat.le_refl _)

set_option maxHeartbeats 4000000 in
set_option maxRecDepth 100000 in
theorem k_X9_next (l : Launch) (D : va_G) (dA : Nat → ClassId) (r9 : Nat) (g : Nat → Int) (hg : WF g) {z : Int} (c9 : Nat) (ec : z = (c9 : Int)) (hc : c9 < 1000) : hv_Ct l yX9_next (hw_W yX9_next cX9_next 6 (some .int)) 1 D dA [.ref r9, .int (zI (z))] ([(r9, .inl (dA 0, 12, .inl (fun i => zI (g i))))]) 0 0 (S := Unit) (fun _ => some (.int (zI (mz_n (gS g) (gR g) c9 : Int)))) (fun _ => True) (fun _ => [(r9, .inl (dA 0, 12, .inl (fun i => zI (g i))))]) := by
  subst ec
  have hg0 := hg.1
  have hg5 := hg.2.2.2.2.2
  have hge := hg.e0
  have hge5 := hg.e5
  refine hv_of (cc := cX9_next) (maxL := 6) (ret := (some .int)) (own := RX9) rfl (by decide) rfl (Nat.le_of_ble_eq_true rfl) ?_
  intro p e s m args below meth c C M
  refine hv_lveq (lv' := [(0, .ref r9), (1, .int (zI ((c9 : Int))))]) rfl ?_
  refine hv_iload_n C dX9_next_0 1 rfl ?_
  refine hv_bipush C dX9_next_1 (v := zI (100)) (by decide +kernel) ?_
  refine hv_idiv C dX9_next_3 (z := zI (((c9 / 100 : Nat) : Int))) ((zI_ne0 (by omega)).mpr (by omega)) ((zI_div (by omega)).trans (zI_c (by omega))) ?_
  refine hv_istore_n C dX9_next_4 (lw := [(2, .int (zI (((c9 / 100 : Nat) : Int)))), (0, .ref r9), (1, .int (zI ((c9 : Int))))]) (by decide) rfl ?_
  refine hv_iload_n C dX9_next_5 2 rfl ?_
  refine hv_bipush C dX9_next_6 (v := zI (10)) (by decide +kernel) ?_
  refine hv_idiv C dX9_next_8 (z := zI (((c9 / 10 : Nat) : Int))) ((zI_ne0 (by omega)).mpr (by omega)) ((zI_div (by omega)).trans (zI_c (by omega))) ?_
  refine hv_bipush C dX9_next_9 (v := zI (10)) (by decide +kernel) ?_
  refine hv_irem C dX9_next_11 (z := zI (((c9 / 10 % 10 : Nat) : Int))) ((zI_ne0 (by omega)).mpr (by omega)) ((zI_rem (by omega)).trans (zI_c (by omega))) ?_
  refine hv_istore_n C dX9_next_12 (lw := [(3, .int (zI (((c9 / 10 % 10 : Nat) : Int)))), (2, .int (zI (((c9 / 100 : Nat) : Int)))), (0, .ref r9), (1, .int (zI ((c9 : Int))))]) (by decide) rfl ?_
  refine hv_iload_n C dX9_next_13 3 rfl ?_
  refine hv_bipush C dX9_next_14 (v := zI (10)) (by decide +kernel) ?_
  refine hv_irem C dX9_next_16 (z := zI (((c9 % 10 : Nat) : Int))) ((zI_ne0 (by omega)).mpr (by omega)) ((zI_rem (by omega)).trans (zI_c (by omega))) ?_
  refine hv_iconst C dX9_next_17 (v := zI (1)) rfl ?_
  refine hv_iadd C dX9_next_18 (z := zI (((c9 % 10 + 1 : Nat) : Int))) ((zI_add _ _).trans (zI_c (by omega))) ?_
  refine hv_istore C dX9_next_19 (lw := [(4, .int (zI (((c9 % 10 + 1 : Nat) : Int)))), (3, .int (zI (((c9 / 10 % 10 : Nat) : Int)))), (2, .int (zI (((c9 / 100 : Nat) : Int)))), (0, .ref r9), (1, .int (zI ((c9 : Int))))]) (by decide) rfl ?_
  refine hv_iload_n C dX9_next_21 1 rfl ?_
  refine hv_iload C dX9_next_22 0 rfl ?_
  refine hv_iconst C dX9_next_24 (v := zI (3)) rfl ?_
  refine hv_icmp_le C dX9_next_25 (tgt := 32) (by decide) (zI_le (by omega)) (fun hc25 => ?_) (fun hc25 => ?_)
  · refine hv_iconst C dX9_next_32 (v := zI (0)) rfl ?_
    refine hv_iadd C dX9_next_33 (zI_add _ _) ?_
    refine hv_istore_n C dX9_next_34 (lw := [(3, .int (zI ((((c9 / 10 % 10 : Nat) : Int)) + (0)))), (4, .int (zI (((c9 % 10 + 1 : Nat) : Int)))), (2, .int (zI (((c9 / 100 : Nat) : Int)))), (0, .ref r9), (1, .int (zI ((c9 : Int))))]) (by decide) rfl ?_
    refine hv_iload C dX9_next_35 1 rfl ?_
    refine hv_iconst C dX9_next_37 (v := zI (3)) rfl ?_
    refine hv_icmp_le C dX9_next_38 (tgt := 45) (by decide) (zI_le (by omega)) (fun hc38 => ?_) (fun hc38 => ?_)
    · refine hv_iload C dX9_next_45 1 rfl ?_
      refine hv_istore C dX9_next_47 (lw := [(4, .int (zI (((c9 % 10 + 1 : Nat) : Int)))), (3, .int (zI ((((c9 / 10 % 10 : Nat) : Int)) + (0)))), (2, .int (zI (((c9 / 100 : Nat) : Int)))), (0, .ref r9), (1, .int (zI ((c9 : Int))))]) (by decide) rfl ?_
      refine hv_iload_n C dX9_next_49 2 rfl ?_
      refine hv_iload_n C dX9_next_50 1 rfl ?_
      refine hv_iload_n C dX9_next_51 2 rfl ?_
      refine hv_isub C dX9_next_52 (zI_sub _ _) ?_
      refine hv_aload_n C dX9_next_53 3 rfl ?_
      refine hv_iconst C dX9_next_54 (v := zI (5)) rfl ?_
      refine hv_iald C dX9_next_55 0 rfl (5) (rfl) (by omega) (by omega) (v := (zI (g 5))) rfl ?_
      refine hv_icmp_ge C dX9_next_56 (tgt := 66) (by decide) (zI_le (by omega)) (fun hc56 => ?_) (fun hc56 => ?_)
      · refine hv_iconst C dX9_next_66 (v := zI (1)) rfl ?_
        refine hv_goto C dX9_next_67 (tgt := 71) (by decide) ?_
        refine hv_iadd C dX9_next_71 (zI_add _ _) ?_
        refine hv_istore_n C dX9_next_72 (lw := [(2, .int (zI ((((c9 / 100 : Nat) : Int)) + (1)))), (4, .int (zI (((c9 % 10 + 1 : Nat) : Int)))), (3, .int (zI ((((c9 / 10 % 10 : Nat) : Int)) + (0)))), (0, .ref r9), (1, .int (zI ((c9 : Int))))]) (by decide) rfl ?_
        refine hv_iload_n C dX9_next_73 0 rfl ?_
        refine hv_iload_n C dX9_next_74 4 rfl ?_
        refine hv_bipush C dX9_next_75 (v := zI (100)) (by decide +kernel) ?_
        refine hv_idiv C dX9_next_77 (z := zI (((c9 / 100 : Nat) : Int))) ((zI_ne0 (by omega)).mpr (by omega)) ((zI_div (by omega)).trans (zI_c (by omega))) ?_
        refine hv_icmp_le C dX9_next_78 (tgt := 85) (by decide) (zI_le (by omega)) (fun hc78 => ?_) (fun hc78 => ?_)
        · refine hv_iconst C dX9_next_85 (v := zI (0)) rfl ?_
          refine hv_istore C dX9_next_86 (lw := [(5, .int (zI (0))), (2, .int (zI ((((c9 / 100 : Nat) : Int)) + (1)))), (4, .int (zI (((c9 % 10 + 1 : Nat) : Int)))), (3, .int (zI ((((c9 / 10 % 10 : Nat) : Int)) + (0)))), (0, .ref r9), (1, .int (zI ((c9 : Int))))]) (by decide) rfl ?_
          refine hv_iload_n C dX9_next_88 1 rfl ?_
          refine hv_aload_n C dX9_next_89 4 rfl ?_
          refine hv_iconst C dX9_next_90 (v := zI (0)) rfl ?_
          refine hv_iald C dX9_next_91 0 rfl (0) (rfl) (by omega) (by omega) (v := (zI (g 0))) rfl ?_
          refine hv_icmp_lt C dX9_next_92 (tgt := 101) (by decide) (zI_lt (by omega)) (fun hc92 => ?_) (fun hc92 => ?_)
          · refine hv_bipush C dX9_next_101 (v := zI (100)) (by decide +kernel) ?_
            refine hv_iload_n C dX9_next_103 1 rfl ?_
            refine hv_imul C dX9_next_104 (zI_mul _ _) ?_
            refine hv_bipush C dX9_next_105 (v := zI (10)) (by decide +kernel) ?_
            refine hv_iload C dX9_next_107 0 rfl ?_
            refine hv_if_eq C dX9_next_109 (tgt := 116) (by decide) (zI_eq0 (by omega)) (fun hc109 => ?_) (fun hc109 => ?_)
            · refine hv_iload_n C dX9_next_116 3 rfl ?_
              refine hv_imul C dX9_next_117 (zI_mul _ _) ?_
              refine hv_iadd C dX9_next_118 (zI_add _ _) ?_
              refine hv_iload C dX9_next_119 2 rfl ?_
              refine hv_iadd C dX9_next_121 (zI_add _ _) ?_
              exact hv_iret C M dX9_next_122 rfl rfl () trivial (hv_rv (by unfold mz_n; dsimp only; (repeat' split) <;> omega)) [] (List.Perm.of_eq (by first | rfl | exact (List.append_nil _).symm)) (Nat.le_refl _) (Nat.le_refl _)
            · refine hv_iload_n C dX9_next_112 1 rfl ?_
              refine hv_goto C dX9_next_113 (tgt := 117) (by decide) ?_
              refine hv_imul C dX9_next_117 (zI_mul _ _) ?_
              refine hv_iadd C dX9_next_118 (zI_add _ _) ?_
              refine hv_iload C dX9_next_119 2 rfl ?_
              refine hv_iadd C dX9_next_121 (zI_add _ _) ?_
              exact hv_iret C M dX9_next_122 rfl rfl () trivial (hv_rv (by unfold mz_n; dsimp only; (repeat' split) <;> omega)) [] (List.Perm.of_eq (by first | rfl | exact (List.append_nil _).symm)) (Nat.le_refl _) (Nat.le_refl _)
          · refine hv_sipush C dX9_next_95 (v := zI (1000)) (by decide +kernel) ?_
            refine hv_goto C dX9_next_98 (tgt := 122) (by decide) ?_
            exact hv_iret C M dX9_next_122 rfl rfl () trivial (hv_rv (by unfold mz_n; dsimp only; (repeat' split) <;> omega)) [] (List.Perm.of_eq (by first | rfl | exact (List.append_nil _).symm)) (Nat.le_refl _) (Nat.le_refl _)
        · refine hv_iconst C dX9_next_81 (v := zI (1)) rfl ?_
          refine hv_goto C dX9_next_82 (tgt := 86) (by decide) ?_
          refine hv_istore C dX9_next_86 (lw := [(5, .int (zI (1))), (2, .int (zI ((((c9 / 100 : Nat) : Int)) + (1)))), (4, .int (zI (((c9 % 10 + 1 : Nat) : Int)))), (3, .int (zI ((((c9 / 10 % 10 : Nat) : Int)) + (0)))), (0, .ref r9), (1, .int (zI ((c9 : Int))))]) (by decide) rfl ?_
          refine hv_iload_n C dX9_next_88 1 rfl ?_
          refine hv_aload_n C dX9_next_89 4 rfl ?_
          refine hv_iconst C dX9_next_90 (v := zI (0)) rfl ?_
          refine hv_iald C dX9_next_91 0 rfl (0) (rfl) (by omega) (by omega) (v := (zI (g 0))) rfl ?_
          refine hv_icmp_lt C dX9_next_92 (tgt := 101) (by decide) (zI_lt (by omega)) (fun hc92 => ?_) (fun hc92 => ?_)
          · refine hv_bipush C dX9_next_101 (v := zI (100)) (by decide +kernel) ?_
            refine hv_iload_n C dX9_next_103 1 rfl ?_
            refine hv_imul C dX9_next_104 (zI_mul _ _) ?_
            refine hv_bipush C dX9_next_105 (v := zI (10)) (by decide +kernel) ?_
            refine hv_iload C dX9_next_107 0 rfl ?_
            refine hv_if_eq C dX9_next_109 (tgt := 116) (by decide) (zI_eq0 (by omega)) (fun hc109 => ?_) (fun hc109 => ?_)
            · refine hv_iload_n C dX9_next_116 3 rfl ?_
              refine hv_imul C dX9_next_117 (zI_mul _ _) ?_
              refine hv_iadd C dX9_next_118 (zI_add _ _) ?_
              refine hv_iload C dX9_next_119 2 rfl ?_
              refine hv_iadd C dX9_next_121 (zI_add _ _) ?_
              exact hv_iret C M dX9_next_122 rfl rfl () trivial (hv_rv (by unfold mz_n; dsimp only; (repeat' split) <;> omega)) [] (List.Perm.of_eq (by first | rfl | exact (List.append_nil _).symm)) (Nat.le_refl _) (Nat.le_refl _)
            · refine hv_iload_n C dX9_next_112 1 rfl ?_
              refine hv_goto C dX9_next_113 (tgt := 117) (by decide) ?_
              refine hv_imul C dX9_next_117 (zI_mul _ _) ?_
              refine hv_iadd C dX9_next_118 (zI_add _ _) ?_
              refine hv_iload C dX9_next_119 2 rfl ?_
              refine hv_iadd C dX9_next_121 (zI_add _ _) ?_
              exact hv_iret C M dX9_next_122 rfl rfl () trivial (hv_rv (by unfold mz_n; dsimp only; (repeat' split) <;> omega)) [] (List.Perm.of_eq (by first | rfl | exact (List.append_nil _).symm)) (Nat.le_refl _) (Nat.le_refl _)
          · refine hv_sipush C dX9_next_95 (v := zI (1000)) (by decide +kernel) ?_
            refine hv_goto C dX9_next_98 (tgt := 122) (by decide) ?_
            exact hv_iret C M dX9_next_122 rfl rfl () trivial (hv_rv (by unfold mz_n; dsimp only; (repeat' split) <;> omega)) [] (List.Perm.of_eq (by first | rfl | exact (List.append_nil _).symm)) (Nat.le_refl _) (Nat.le_refl _)
      · refine hv_iload_n C dX9_next_59 1 rfl ?_
        refine hv_aload_n C dX9_next_60 3 rfl ?_
        refine hv_iconst C dX9_next_61 (v := zI (0)) rfl ?_
        refine hv_iald C dX9_next_62 0 rfl (0) (rfl) (by omega) (by omega) (v := (zI (g 0))) rfl ?_
        refine hv_icmp_lt C dX9_next_63 (tgt := 70) (by decide) (zI_lt (by omega)) (fun hc63 => ?_) (fun hc63 => ?_)
        · refine hv_iconst C dX9_next_70 (v := zI (0)) rfl ?_
          refine hv_iadd C dX9_next_71 (zI_add _ _) ?_
          refine hv_istore_n C dX9_next_72 (lw := [(2, .int (zI ((((c9 / 100 : Nat) : Int)) + (0)))), (4, .int (zI (((c9 % 10 + 1 : Nat) : Int)))), (3, .int (zI ((((c9 / 10 % 10 : Nat) : Int)) + (0)))), (0, .ref r9), (1, .int (zI ((c9 : Int))))]) (by decide) rfl ?_
          refine hv_iload_n C dX9_next_73 0 rfl ?_
          refine hv_iload_n C dX9_next_74 4 rfl ?_
          refine hv_bipush C dX9_next_75 (v := zI (100)) (by decide +kernel) ?_
          refine hv_idiv C dX9_next_77 (z := zI (((c9 / 100 : Nat) : Int))) ((zI_ne0 (by omega)).mpr (by omega)) ((zI_div (by omega)).trans (zI_c (by omega))) ?_
          refine hv_icmp_le C dX9_next_78 (tgt := 85) (by decide) (zI_le (by omega)) (fun hc78 => ?_) (fun hc78 => ?_)
          · refine hv_iconst C dX9_next_85 (v := zI (0)) rfl ?_
            refine hv_istore C dX9_next_86 (lw := [(5, .int (zI (0))), (2, .int (zI ((((c9 / 100 : Nat) : Int)) + (0)))), (4, .int (zI (((c9 % 10 + 1 : Nat) : Int)))), (3, .int (zI ((((c9 / 10 % 10 : Nat) : Int)) + (0)))), (0, .ref r9), (1, .int (zI ((c9 : Int))))]) (by decide) rfl ?_
            refine hv_iload_n C dX9_next_88 1 rfl ?_
            refine hv_aload_n C dX9_next_89 4 rfl ?_
            refine hv_iconst C dX9_next_90 (v := zI (0)) rfl ?_
            refine hv_iald C dX9_next_91 0 rfl (0) (rfl) (by omega) (by omega) (v := (zI (g 0))) rfl ?_
            refine hv_icmp_lt C dX9_next_92 (tgt := 101) (by decide) (zI_lt (by omega)) (fun hc92 => ?_) (fun hc92 => ?_)
            · refine hv_bipush C dX9_next_101 (v := zI (100)) (by decide +kernel) ?_
              refine hv_iload_n C dX9_next_103 1 rfl ?_
              refine hv_imul C dX9_next_104 (zI_mul _ _) ?_
              refine hv_bipush C dX9_next_105 (v := zI (10)) (by decide +kernel) ?_
              refine hv_iload C dX9_next_107 0 rfl ?_
              refine hv_if_eq C dX9_next_109 (tgt := 116) (by decide) (zI_eq0 (by omega)) (fun hc109 => ?_) (fun hc109 => ?_)
              · refine hv_iload_n C dX9_next_116 3 rfl ?_
                refine hv_imul C dX9_next_117 (zI_mul _ _) ?_
                refine hv_iadd C dX9_next_118 (zI_add _ _) ?_
                refine hv_iload C dX9_next_119 2 rfl ?_
                refine hv_iadd C dX9_next_121 (zI_add _ _) ?_
                exact hv_iret C M dX9_next_122 rfl rfl () trivial (hv_rv (by unfold mz_n; dsimp only; (repeat' split) <;> omega)) [] (List.Perm.of_eq (by first | rfl | exact (List.append_nil _).symm)) (Nat.le_refl _) (Nat.le_refl _)
              · refine hv_iload_n C dX9_next_112 1 rfl ?_
                refine hv_goto C dX9_next_113 (tgt := 117) (by decide) ?_
                refine hv_imul C dX9_next_117 (zI_mul _ _) ?_
                refine hv_iadd C dX9_next_118 (zI_add _ _) ?_
                refine hv_iload C dX9_next_119 2 rfl ?_
                refine hv_iadd C dX9_next_121 (zI_add _ _) ?_
                exact hv_iret C M dX9_next_122 rfl rfl () trivial (hv_rv (by unfold mz_n; dsimp only; (repeat' split) <;> omega)) [] (List.Perm.of_eq (by first | rfl | exact (List.append_nil _).symm)) (Nat.le_refl _) (Nat.le_refl _)
            · refine hv_sipush C dX9_next_95 (v := zI (1000)) (by decide +kernel) ?_
              refine hv_goto C dX9_next_98 (tgt := 122) (by decide) ?_
              exact hv_iret C M dX9_next_122 rfl rfl () trivial (hv_rv (by unfold mz_n; dsimp only; (repeat' split) <;> omega)) [] (List.Perm.of_eq (by first | rfl | exact (List.append_nil _).symm)) (Nat.le_refl _) (Nat.le_refl _)
          · refine hv_iconst C dX9_next_81 (v := zI (1)) rfl ?_
            refine hv_goto C dX9_next_82 (tgt := 86) (by decide) ?_
            refine hv_istore C dX9_next_86 (lw := [(5, .int (zI (1))), (2, .int (zI ((((c9 / 100 : Nat) : Int)) + (0)))), (4, .int (zI (((c9 % 10 + 1 : Nat) : Int)))), (3, .int (zI ((((c9 / 10 % 10 : Nat) : Int)) + (0)))), (0, .ref r9), (1, .int (zI ((c9 : Int))))]) (by decide) rfl ?_
            refine hv_iload_n C dX9_next_88 1 rfl ?_
            refine hv_aload_n C dX9_next_89 4 rfl ?_
            refine hv_iconst C dX9_next_90 (v := zI (0)) rfl ?_
            refine hv_iald C dX9_next_91 0 rfl (0) (rfl) (by omega) (by omega) (v := (zI (g 0))) rfl ?_
            refine hv_icmp_lt C dX9_next_92 (tgt := 101) (by decide) (zI_lt (by omega)) (fun hc92 => ?_) (fun hc92 => ?_)
            · refine hv_bipush C dX9_next_101 (v := zI (100)) (by decide +kernel) ?_
              refine hv_iload_n C dX9_next_103 1 rfl ?_
              refine hv_imul C dX9_next_104 (zI_mul _ _) ?_
              refine hv_bipush C dX9_next_105 (v := zI (10)) (by decide +kernel) ?_
              refine hv_iload C dX9_next_107 0 rfl ?_
              refine hv_if_eq C dX9_next_109 (tgt := 116) (by decide) (zI_eq0 (by omega)) (fun hc109 => ?_) (fun hc109 => ?_)
              · refine hv_iload_n C dX9_next_116 3 rfl ?_
                refine hv_imul C dX9_next_117 (zI_mul _ _) ?_
                refine hv_iadd C dX9_next_118 (zI_add _ _) ?_
                refine hv_iload C dX9_next_119 2 rfl ?_
                refine hv_iadd C dX9_next_121 (zI_add _ _) ?_
                exact hv_iret C M dX9_next_122 rfl rfl () trivial (hv_rv (by unfold mz_n; dsimp only; (repeat' split) <;> omega)) [] (List.Perm.of_eq (by first | rfl | exact (List.append_nil _).symm)) (Nat.le_refl _) (Nat.le_refl _)
              · refine hv_iload_n C dX9_next_112 1 rfl ?_
                refine hv_goto C dX9_next_113 (tgt := 117) (by decide) ?_
                refine hv_imul C dX9_next_117 (zI_mul _ _) ?_
                refine hv_iadd C dX9_next_118 (zI_add _ _) ?_
                refine hv_iload C dX9_next_119 2 rfl ?_
                refine hv_iadd C dX9_next_121 (zI_add _ _) ?_
                exact hv_iret C M dX9_next_122 rfl rfl () trivial (hv_rv (by unfold mz_n; dsimp only; (repeat' split) <;> omega)) [] (List.Perm.of_eq (by first | rfl | exact (List.append_nil _).symm)) (Nat.le_refl _) (Nat.le_refl _)
            · refine hv_sipush C dX9_next_95 (v := zI (1000)) (by decide +kernel) ?_
              refine hv_goto C dX9_next_98 (tgt := 122) (by decide) ?_
              exact hv_iret C M dX9_next_122 rfl rfl () trivial (hv_rv (by unfold mz_n; dsimp only; (repeat' split) <;> omega)) [] (List.Perm.of_eq (by first | rfl | exact (List.append_nil _).symm)) (Nat.le_refl _) (Nat.le_refl _)
        · refine hv_iconst C dX9_next_66 (v := zI (1)) rfl ?_
          refine hv_goto C dX9_next_67 (tgt := 71) (by decide) ?_
          refine hv_iadd C dX9_next_71 (zI_add _ _) ?_
          refine hv_istore_n C dX9_next_72 (lw := [(2, .int (zI ((((c9 / 100 : Nat) : Int)) + (1)))), (4, .int (zI (((c9 % 10 + 1 : Nat) : Int)))), (3, .int (zI ((((c9 / 10 % 10 : Nat) : Int)) + (0)))), (0, .ref r9), (1, .int (zI ((c9 : Int))))]) (by decide) rfl ?_
          refine hv_iload_n C dX9_next_73 0 rfl ?_
          refine hv_iload_n C dX9_next_74 4 rfl ?_
          refine hv_bipush C dX9_next_75 (v := zI (100)) (by decide +kernel) ?_
          refine hv_idiv C dX9_next_77 (z := zI (((c9 / 100 : Nat) : Int))) ((zI_ne0 (by omega)).mpr (by omega)) ((zI_div (by omega)).trans (zI_c (by omega))) ?_
          refine hv_icmp_le C dX9_next_78 (tgt := 85) (by decide) (zI_le (by omega)) (fun hc78 => ?_) (fun hc78 => ?_)
          · refine hv_iconst C dX9_next_85 (v := zI (0)) rfl ?_
            refine hv_istore C dX9_next_86 (lw := [(5, .int (zI (0))), (2, .int (zI ((((c9 / 100 : Nat) : Int)) + (1)))), (4, .int (zI (((c9 % 10 + 1 : Nat) : Int)))), (3, .int (zI ((((c9 / 10 % 10 : Nat) : Int)) + (0)))), (0, .ref r9), (1, .int (zI ((c9 : Int))))]) (by decide) rfl ?_
            refine hv_iload_n C dX9_next_88 1 rfl ?_
            refine hv_aload_n C dX9_next_89 4 rfl ?_
            refine hv_iconst C dX9_next_90 (v := zI (0)) rfl ?_
            refine hv_iald C dX9_next_91 0 rfl (0) (rfl) (by omega) (by omega) (v := (zI (g 0))) rfl ?_
            refine hv_icmp_lt C dX9_next_92 (tgt := 101) (by decide) (zI_lt (by omega)) (fun hc92 => ?_) (fun hc92 => ?_)
            · refine hv_bipush C dX9_next_101 (v := zI (100)) (by decide +kernel) ?_
              refine hv_iload_n C dX9_next_103 1 rfl ?_
              refine hv_imul C dX9_next_104 (zI_mul _ _) ?_
              refine hv_bipush C dX9_next_105 (v := zI (10)) (by decide +kernel) ?_
              refine hv_iload C dX9_next_107 0 rfl ?_
              refine hv_if_eq C dX9_next_109 (tgt := 116) (by decide) (zI_eq0 (by omega)) (fun hc109 => ?_) (fun hc109 => ?_)
              · refine hv_iload_n C dX9_next_116 3 rfl ?_
                refine hv_imul C dX9_next_117 (zI_mul _ _) ?_
                refine hv_iadd C dX9_next_118 (zI_add _ _) ?_
                refine hv_iload C dX9_next_119 2 rfl ?_
                refine hv_iadd C dX9_next_121 (zI_add _ _) ?_
                exact hv_iret C M dX9_next_122 rfl rfl () trivial (hv_rv (by unfold mz_n; dsimp only; (repeat' split) <;> omega)) [] (List.Perm.of_eq (by first | rfl | exact (List.append_nil _).symm)) (Nat.le_refl _) (Nat.le_refl _)
              · refine hv_iload_n C dX9_next_112 1 rfl ?_
                refine hv_goto C dX9_next_113 (tgt := 117) (by decide) ?_
                refine hv_imul C dX9_next_117 (zI_mul _ _) ?_
                refine hv_iadd C dX9_next_118 (zI_add _ _) ?_
                refine hv_iload C dX9_next_119 2 rfl ?_
                refine hv_iadd C dX9_next_121 (zI_add _ _) ?_
                exact hv_iret C M dX9_next_122 rfl rfl () trivial (hv_rv (by unfold mz_n; dsimp only; (repeat' split) <;> omega)) [] (List.Perm.of_eq (by first | rfl | exact (List.append_nil _).symm)) (Nat.le_refl _) (Nat.le_refl _)
            · refine hv_sipush C dX9_next_95 (v := zI (1000)) (by decide +kernel) ?_
              refine hv_goto C dX9_next_98 (tgt := 122) (by decide) ?_
              exact hv_iret C M dX9_next_122 rfl rfl () trivial (hv_rv (by unfold mz_n; dsimp only; (repeat' split) <;> omega)) [] (List.Perm.of_eq (by first | rfl | exact (List.append_nil _).symm)) (Nat.le_refl _) (Nat.le_refl _)
          · refine hv_iconst C dX9_next_81 (v := zI (1)) rfl ?_
            refine hv_goto C dX9_next_82 (tgt := 86) (by decide) ?_
            refine hv_istore C dX9_next_86 (lw := [(5, .int (zI (1))), (2, .int (zI ((((c9 / 100 : Nat) : Int)) + (1)))), (4, .int (zI (((c9 % 10 + 1 : Nat) : Int)))), (3, .int (zI ((((c9 / 10 % 10 : Nat) : Int)) + (0)))), (0, .ref r9), (1, .int (zI ((c9 : Int))))]) (by decide) rfl ?_
            refine hv_iload_n C dX9_next_88 1 rfl ?_
            refine hv_aload_n C dX9_next_89 4 rfl ?_
            refine hv_iconst C dX9_next_90 (v := zI (0)) rfl ?_
            refine hv_iald C dX9_next_91 0 rfl (0) (rfl) (by omega) (by omega) (v := (zI (g 0))) rfl ?_
            refine hv_icmp_lt C dX9_next_92 (tgt := 101) (by decide) (zI_lt (by omega)) (fun hc92 => ?_) (fun hc92 => ?_)
            · refine hv_bipush C dX9_next_101 (v := zI (100)) (by decide +kernel) ?_
              refine hv_iload_n C dX9_next_103 1 rfl ?_
              refine hv_imul C dX9_next_104 (zI_mul _ _) ?_
              refine hv_bipush C dX9_next_105 (v := zI (10)) (by decide +kernel) ?_
              refine hv_iload C dX9_next_107 0 rfl ?_
              refine hv_if_eq C dX9_next_109 (tgt := 116) (by decide) (zI_eq0 (by omega)) (fun hc109 => ?_) (fun hc109 => ?_)
              · refine hv_iload_n C dX9_next_116 3 rfl ?_
                refine hv_imul C dX9_next_117 (zI_mul _ _) ?_
                refine hv_iadd C dX9_next_118 (zI_add _ _) ?_
                refine hv_iload C dX9_next_119 2 rfl ?_
                refine hv_iadd C dX9_next_121 (zI_add _ _) ?_
                exact hv_iret C M dX9_next_122 rfl rfl () trivial (hv_rv (by unfold mz_n; dsimp only; (repeat' split) <;> omega)) [] (List.Perm.of_eq (by first | rfl | exact (List.append_nil _).symm)) (Nat.le_refl _) (Nat.le_refl _)
              · refine hv_iload_n C dX9_next_112 1 rfl ?_
                refine hv_goto C dX9_next_113 (tgt := 117) (by decide) ?_
                refine hv_imul C dX9_next_117 (zI_mul _ _) ?_
                refine hv_iadd C dX9_next_118 (zI_add _ _) ?_
                refine hv_iload C dX9_next_119 2 rfl ?_
                refine hv_iadd C dX9_next_121 (zI_add _ _) ?_
                exact hv_iret C M dX9_next_122 rfl rfl () trivial (hv_rv (by unfold mz_n; dsimp only; (repeat' split) <;> omega)) [] (List.Perm.of_eq (by first | rfl | exact (List.append_nil _).symm)) (Nat.le_refl _) (Nat.le_refl _)
            · refine hv_sipush C dX9_next_95 (v := zI (1000)) (by decide +kernel) ?_
              refine hv_goto C dX9_next_98 (tgt := 122) (by decide) ?_
              exact hv_iret C M dX9_next_122 rfl rfl () trivial (hv_rv (by unfold mz_n; dsimp only; (repeat' split) <;> omega)) [] (List.Perm.of_eq (by first | rfl | exact (List.append_nil _).symm)) (Nat.le_refl _) (Nat.le_refl _)
    · refine hv_iconst C dX9_next_41 (v := zI (1)) rfl ?_
      refine hv_goto C dX9_next_42 (tgt := 47) (by decide) ?_
      refine hv_istore C dX9_next_47 (lw := [(4, .int (zI (1))), (3, .int (zI ((((c9 / 10 % 10 : Nat) : Int)) + (0)))), (2, .int (zI (((c9 / 100 : Nat) : Int)))), (0, .ref r9), (1, .int (zI ((c9 : Int))))]) (by decide) rfl ?_
      refine hv_iload_n C dX9_next_49 2 rfl ?_
      refine hv_iload_n C dX9_next_50 1 rfl ?_
      refine hv_iload_n C dX9_next_51 2 rfl ?_
      refine hv_isub C dX9_next_52 (zI_sub _ _) ?_
      refine hv_aload_n C dX9_next_53 3 rfl ?_
      refine hv_iconst C dX9_next_54 (v := zI (5)) rfl ?_
      refine hv_iald C dX9_next_55 0 rfl (5) (rfl) (by omega) (by omega) (v := (zI (g 5))) rfl ?_
      refine hv_icmp_ge C dX9_next_56 (tgt := 66) (by decide) (zI_le (by omega)) (fun hc56 => ?_) (fun hc56 => ?_)
      · refine hv_iconst C dX9_next_66 (v := zI (1)) rfl ?_
        refine hv_goto C dX9_next_67 (tgt := 71) (by decide) ?_
        refine hv_iadd C dX9_next_71 (zI_add _ _) ?_
        refine hv_istore_n C dX9_next_72 (lw := [(2, .int (zI ((((c9 / 100 : Nat) : Int)) + (1)))), (4, .int (zI (1))), (3, .int (zI ((((c9 / 10 % 10 : Nat) : Int)) + (0)))), (0, .ref r9), (1, .int (zI ((c9 : Int))))]) (by decide) rfl ?_
        refine hv_iload_n C dX9_next_73 0 rfl ?_
        refine hv_iload_n C dX9_next_74 4 rfl ?_
        refine hv_bipush C dX9_next_75 (v := zI (100)) (by decide +kernel) ?_
        refine hv_idiv C dX9_next_77 (z := zI (((c9 / 100 : Nat) : Int))) ((zI_ne0 (by omega)).mpr (by omega)) ((zI_div (by omega)).trans (zI_c (by omega))) ?_
        refine hv_icmp_le C dX9_next_78 (tgt := 85) (by decide) (zI_le (by omega)) (fun hc78 => ?_) (fun hc78 => ?_)
        · refine hv_iconst C dX9_next_85 (v := zI (0)) rfl ?_
          refine hv_istore C dX9_next_86 (lw := [(5, .int (zI (0))), (2, .int (zI ((((c9 / 100 : Nat) : Int)) + (1)))), (4, .int (zI (1))), (3, .int (zI ((((c9 / 10 % 10 : Nat) : Int)) + (0)))), (0, .ref r9), (1, .int (zI ((c9 : Int))))]) (by decide) rfl ?_
          refine hv_iload_n C dX9_next_88 1 rfl ?_
          refine hv_aload_n C dX9_next_89 4 rfl ?_
          refine hv_iconst C dX9_next_90 (v := zI (0)) rfl ?_
          refine hv_iald C dX9_next_91 0 rfl (0) (rfl) (by omega) (by omega) (v := (zI (g 0))) rfl ?_
          refine hv_icmp_lt C dX9_next_92 (tgt := 101) (by decide) (zI_lt (by omega)) (fun hc92 => ?_) (fun hc92 => ?_)
          · refine hv_bipush C dX9_next_101 (v := zI (100)) (by decide +kernel) ?_
            refine hv_iload_n C dX9_next_103 1 rfl ?_
            refine hv_imul C dX9_next_104 (zI_mul _ _) ?_
            refine hv_bipush C dX9_next_105 (v := zI (10)) (by decide +kernel) ?_
            refine hv_iload C dX9_next_107 0 rfl ?_
            refine hv_if_eq C dX9_next_109 (tgt := 116) (by decide) (zI_eq0 (by omega)) (fun hc109 => ?_) (fun hc109 => ?_)
            · refine hv_iload_n C dX9_next_116 3 rfl ?_
              refine hv_imul C dX9_next_117 (zI_mul _ _) ?_
              refine hv_iadd C dX9_next_118 (zI_add _ _) ?_
              refine hv_iload C dX9_next_119 2 rfl ?_
              refine hv_iadd C dX9_next_121 (zI_add _ _) ?_
              exact hv_iret C M dX9_next_122 rfl rfl () trivial (hv_rv (by unfold mz_n; dsimp only; (repeat' split) <;> omega)) [] (List.Perm.of_eq (by first | rfl | exact (List.append_nil _).symm)) (Nat.le_refl _) (Nat.le_refl _)
            · refine hv_iload_n C dX9_next_112 1 rfl ?_
              refine hv_goto C dX9_next_113 (tgt := 117) (by decide) ?_
              refine hv_imul C dX9_next_117 (zI_mul _ _) ?_
              refine hv_iadd C dX9_next_118 (zI_add _ _) ?_
              refine hv_iload C dX9_next_119 2 rfl ?_
              refine hv_iadd C dX9_next_121 (zI_add _ _) ?_
              exact hv_iret C M dX9_next_122 rfl rfl () trivial (hv_rv (by unfold mz_n; dsimp only; (repeat' split) <;> omega)) [] (List.Perm.of_eq (by first | rfl | exact (List.append_nil _).symm)) (Nat.le_refl _) (Nat.le_refl _)
          · refine hv_sipush C dX9_next_95 (v := zI (1000)) (by decide +kernel) ?_
            refine hv_goto C dX9_next_98 (tgt := 122) (by decide) ?_
            exact hv_iret C M dX9_next_122 rfl rfl () trivial (hv_rv (by unfold mz_n; dsimp only; (repeat' split) <;> omega)) [] (List.Perm.of_eq (by first | rfl | exact (List.append_nil _).symm)) (Nat.le_refl _) (Nat.le_refl _)
        · refine hv_iconst C dX9_next_81 (v := zI (1)) rfl ?_
          refine hv_goto C dX9_next_82 (tgt := 86) (by decide) ?_
          refine hv_istore C dX9_next_86 (lw := [(5, .int (zI (1))), (2, .int (zI ((((c9 / 100 : Nat) : Int)) + (1)))), (4, .int (zI (1))), (3, .int (zI ((((c9 / 10 % 10 : Nat) : Int)) + (0)))), (0, .ref r9), (1, .int (zI ((c9 : Int))))]) (by decide) rfl ?_
          refine hv_iload_n C dX9_next_88 1 rfl ?_
          refine hv_aload_n C dX9_next_89 4 rfl ?_
          refine hv_iconst C dX9_next_90 (v := zI (0)) rfl ?_
          refine hv_iald C dX9_next_91 0 rfl (0) (rfl) (by omega) (by omega) (v := (zI (g 0))) rfl ?_
          refine hv_icmp_lt C dX9_next_92 (tgt := 101) (by decide) (zI_lt (by omega)) (fun hc92 => ?_) (fun hc92 => ?_)
          · refine hv_bipush C dX9_next_101 (v := zI (100)) (by decide +kernel) ?_
            refine hv_iload_n C dX9_next_103 1 rfl ?_
            refine hv_imul C dX9_next_104 (zI_mul _ _) ?_
            refine hv_bipush C dX9_next_105 (v := zI (10)) (by decide +kernel) ?_
            refine hv_iload C dX9_next_107 0 rfl ?_
            refine hv_if_eq C dX9_next_109 (tgt := 116) (by decide) (zI_eq0 (by omega)) (fun hc109 => ?_) (fun hc109 => ?_)
            · refine hv_iload_n C dX9_next_116 3 rfl ?_
              refine hv_imul C dX9_next_117 (zI_mul _ _) ?_
              refine hv_iadd C dX9_next_118 (zI_add _ _) ?_
              refine hv_iload C dX9_next_119 2 rfl ?_
              refine hv_iadd C dX9_next_121 (zI_add _ _) ?_
              exact hv_iret C M dX9_next_122 rfl rfl () trivial (hv_rv (by unfold mz_n; dsimp only; (repeat' split) <;> omega)) [] (List.Perm.of_eq (by first | rfl | exact (List.append_nil _).symm)) (Nat.le_refl _) (Nat.le_refl _)
            · refine hv_iload_n C dX9_next_112 1 rfl ?_
              refine hv_goto C dX9_next_113 (tgt := 117) (by decide) ?_
              refine hv_imul C dX9_next_117 (zI_mul _ _) ?_
              refine hv_iadd C dX9_next_118 (zI_add _ _) ?_
              refine hv_iload C dX9_next_119 2 rfl ?_
              refine hv_iadd C dX9_next_121 (zI_add _ _) ?_
              exact hv_iret C M dX9_next_122 rfl rfl () trivial (hv_rv (by unfold mz_n; dsimp only; (repeat' split) <;> omega)) [] (List.Perm.of_eq (by first | rfl | exact (List.append_nil _).symm)) (Nat.le_refl _) (Nat.le_refl _)
          · refine hv_sipush C dX9_next_95 (v := zI (1000)) (by decide +kernel) ?_
            refine hv_goto C dX9_next_98 (tgt := 122) (by decide) ?_
            exact hv_iret C M dX9_next_122 rfl rfl () trivial (hv_rv (by unfold mz_n; dsimp only; (repeat' split) <;> omega)) [] (List.Perm.of_eq (by first | rfl | exact (List.append_nil _).symm)) (Nat.le_refl _) (Nat.le_refl _)
      · refine hv_iload_n C dX9_next_59 1 rfl ?_
        refine hv_aload_n C dX9_next_60 3 rfl ?_
        refine hv_iconst C dX9_next_61 (v := zI (0)) rfl ?_
        refine hv_iald C dX9_next_62 0 rfl (0) (rfl) (by omega) (by omega) (v := (zI (g 0))) rfl ?_
        refine hv_icmp_lt C dX9_next_63 (tgt := 70) (by decide) (zI_lt (by omega)) (fun hc63 => ?_) (fun hc63 => ?_)
        · refine hv_iconst C dX9_next_70 (v := zI (0)) rfl ?_
          refine hv_iadd C dX9_next_71 (zI_add _ _) ?_
          refine hv_istore_n C dX9_next_72 (lw := [(2, .int (zI ((((c9 / 100 : Nat) : Int)) + (0)))), (4, .int (zI (1))), (3, .int (zI ((((c9 / 10 % 10 : Nat) : Int)) + (0)))), (0, .ref r9), (1, .int (zI ((c9 : Int))))]) (by decide) rfl ?_
          refine hv_iload_n C dX9_next_73 0 rfl ?_
          refine hv_iload_n C dX9_next_74 4 rfl ?_
          refine hv_bipush C dX9_next_75 (v := zI (100)) (by decide +kernel) ?_
          refine hv_idiv C dX9_next_77 (z := zI (((c9 / 100 : Nat) : Int))) ((zI_ne0 (by omega)).mpr (by omega)) ((zI_div (by omega)).trans (zI_c (by omega))) ?_
          refine hv_icmp_le C dX9_next_78 (tgt := 85) (by decide) (zI_le (by omega)) (fun hc78 => ?_) (fun hc78 => ?_)
          · refine hv_iconst C dX9_next_85 (v := zI (0)) rfl ?_
            refine hv_istore C dX9_next_86 (lw := [(5, .int (zI (0))), (2, .int (zI ((((c9 / 100 : Nat) : Int)) + (0)))), (4, .int (zI (1))), (3, .int (zI ((((c9 / 10 % 10 : Nat) : Int)) + (0)))), (0, .ref r9), (1, .int (zI ((c9 : Int))))]) (by decide) rfl ?_
            refine hv_iload_n C dX9_next_88 1 rfl ?_
            refine hv_aload_n C dX9_next_89 4 rfl ?_
            refine hv_iconst C dX9_next_90 (v := zI (0)) rfl ?_
            refine hv_iald C dX9_next_91 0 rfl (0) (rfl) (by omega) (by omega) (v := (zI (g 0))) rfl ?_
            refine hv_icmp_lt C dX9_next_92 (tgt := 101) (by decide) (zI_lt (by omega)) (fun hc92 => ?_) (fun hc92 => ?_)
            · refine hv_bipush C dX9_next_101 (v := zI (100)) (by decide +kernel) ?_
              refine hv_iload_n C dX9_next_103 1 rfl ?_
              refine hv_imul C dX9_next_104 (zI_mul _ _) ?_
              refine hv_bipush C dX9_next_105 (v := zI (10)) (by decide +kernel) ?_
              refine hv_iload C dX9_next_107 0 rfl ?_
              refine hv_if_eq C dX9_next_109 (tgt := 116) (by decide) (zI_eq0 (by omega)) (fun hc109 => ?_) (fun hc109 => ?_)
              · refine hv_iload_n C dX9_next_116 3 rfl ?_
                refine hv_imul C dX9_next_117 (zI_mul _ _) ?_
                refine hv_iadd C dX9_next_118 (zI_add _ _) ?_
                refine hv_iload C dX9_next_119 2 rfl ?_
                refine hv_iadd C dX9_next_121 (zI_add _ _) ?_
                exact hv_iret C M dX9_next_122 rfl rfl () trivial (hv_rv (by unfold mz_n; dsimp only; (repeat' split) <;> omega)) [] (List.Perm.of_eq (by first | rfl | exact (List.append_nil _).symm)) (Nat.le_refl _) (Nat.le_refl _)
              · refine hv_iload_n C dX9_next_112 1 rfl ?_
                refine hv_goto C dX9_next_113 (tgt := 117) (by decide) ?_
                refine hv_imul C dX9_next_117 (zI_mul _ _) ?_
                refine hv_iadd C dX9_next_118 (zI_add _ _) ?_
                refine hv_iload C dX9_next_119 2 rfl ?_
                refine hv_iadd C dX9_next_121 (zI_add _ _) ?_
                exact hv_iret C M dX9_next_122 rfl rfl () trivial (hv_rv (by unfold mz_n; dsimp only; (repeat' split) <;> omega)) [] (List.Perm.of_eq (by first | rfl | exact (List.append_nil _).symm)) (Nat.le_refl _) (Nat.le_refl _)
            · refine hv_sipush C dX9_next_95 (v := zI (1000)) (by decide +kernel) ?_
              refine hv_goto C dX9_next_98 (tgt := 122) (by decide) ?_
              exact hv_iret C M dX9_next_122 rfl rfl () trivial (hv_rv (by unfold mz_n; dsimp only; (repeat' split) <;> omega)) [] (List.Perm.of_eq (by first | rfl | exact (List.append_nil _).symm)) (Nat.le_refl _) (Nat.le_refl _)
          · refine hv_iconst C dX9_next_81 (v := zI (1)) rfl ?_
            refine hv_goto C dX9_next_82 (tgt := 86) (by decide) ?_
            refine hv_istore C dX9_next_86 (lw := [(5, .int (zI (1))), (2, .int (zI ((((c9 / 100 : Nat) : Int)) + (0)))), (4, .int (zI (1))), (3, .int (zI ((((c9 / 10 % 10 : Nat) : Int)) + (0)))), (0, .ref r9), (1, .int (zI ((c9 : Int))))]) (by decide) rfl ?_
            refine hv_iload_n C dX9_next_88 1 rfl ?_
            refine hv_aload_n C dX9_next_89 4 rfl ?_
            refine hv_iconst C dX9_next_90 (v := zI (0)) rfl ?_
            refine hv_iald C dX9_next_91 0 rfl (0) (rfl) (by omega) (by omega) (v := (zI (g 0))) rfl ?_
            refine hv_icmp_lt C dX9_next_92 (tgt := 101) (by decide) (zI_lt (by omega)) (fun hc92 => ?_) (fun hc92 => ?_)
            · refine hv_bipush C dX9_next_101 (v := zI (100)) (by decide +kernel) ?_
              refine hv_iload_n C dX9_next_103 1 rfl ?_
              refine hv_imul C dX9_next_104 (zI_mul _ _) ?_
              refine hv_bipush C dX9_next_105 (v := zI (10)) (by decide +kernel) ?_
              refine hv_iload C dX9_next_107 0 rfl ?_
              refine hv_if_eq C dX9_next_109 (tgt := 116) (by decide) (zI_eq0 (by omega)) (fun hc109 => ?_) (fun hc109 => ?_)
              · refine hv_iload_n C dX9_next_116 3 rfl ?_
                refine hv_imul C dX9_next_117 (zI_mul _ _) ?_
                refine hv_iadd C dX9_next_118 (zI_add _ _) ?_
                refine hv_iload C dX9_next_119 2 rfl ?_
                refine hv_iadd C dX9_next_121 (zI_add _ _) ?_
                exact hv_iret C M dX9_next_122 rfl rfl () trivial (hv_rv (by unfold mz_n; dsimp only; (repeat' split) <;> omega)) [] (List.Perm.of_eq (by first | rfl | exact (List.append_nil _).symm)) (Nat.le_refl _) (Nat.le_refl _)
              · refine hv_iload_n C dX9_next_112 1 rfl ?_
                refine hv_goto C dX9_next_113 (tgt := 117) (by decide) ?_
                refine hv_imul C dX9_next_117 (zI_mul _ _) ?_
                refine hv_iadd C dX9_next_118 (zI_add _ _) ?_
                refine hv_iload C dX9_next_119 2 rfl ?_
                refine hv_iadd C dX9_next_121 (zI_add _ _) ?_
                exact hv_iret C M dX9_next_122 rfl rfl () trivial (hv_rv (by unfold mz_n; dsimp only; (repeat' split) <;> omega)) [] (List.Perm.of_eq (by first | rfl | exact (List.append_nil _).symm)) (Nat.le_refl _) (Nat.le_refl _)
            · refine hv_sipush C dX9_next_95 (v := zI (1000)) (by decide +kernel) ?_
              refine hv_goto C dX9_next_98 (tgt := 122) (by decide) ?_
              exact hv_iret C M dX9_next_122 rfl rfl () trivial (hv_rv (by unfold mz_n; dsimp only; (repeat' split) <;> omega)) [] (List.Perm.of_eq (by first | rfl | exact (List.append_nil _).symm)) (Nat.le_refl _) (Nat.le_refl _)
        · refine hv_iconst C dX9_next_66 (v := zI (1)) rfl ?_
          refine hv_goto C dX9_next_67 (tgt := 71) (by decide) ?_
          refine hv_iadd C dX9_next_71 (zI_add _ _) ?_
          refine hv_istore_n C dX9_next_72 (lw := [(2, .int (zI ((((c9 / 100 : Nat) : Int)) + (1)))), (4, .int (zI (1))), (3, .int (zI ((((c9 / 10 % 10 : Nat) : Int)) + (0)))), (0, .ref r9), (1, .int (zI ((c9 : Int))))]) (by decide) rfl ?_
          refine hv_iload_n C dX9_next_73 0 rfl ?_
          refine hv_iload_n C dX9_next_74 4 rfl ?_
          refine hv_bipush C dX9_next_75 (v := zI (100)) (by decide +kernel) ?_
          refine hv_idiv C dX9_next_77 (z := zI (((c9 / 100 : Nat) : Int))) ((zI_ne0 (by omega)).mpr (by omega)) ((zI_div (by omega)).trans (zI_c (by omega))) ?_
          refine hv_icmp_le C dX9_next_78 (tgt := 85) (by decide) (zI_le (by omega)) (fun hc78 => ?_) (fun hc78 => ?_)
          · refine hv_iconst C dX9_next_85 (v := zI (0)) rfl ?_
            refine hv_istore C dX9_next_86 (lw := [(5, .int (zI (0))), (2, .int (zI ((((c9 / 100 : Nat) : Int)) + (1)))), (4, .int (zI (1))), (3, .int (zI ((((c9 / 10 % 10 : Nat) : Int)) + (0)))), (0, .ref r9), (1, .int (zI ((c9 : Int))))]) (by decide) rfl ?_
            refine hv_iload_n C dX9_next_88 1 rfl ?_
            refine hv_aload_n C dX9_next_89 4 rfl ?_
            refine hv_iconst C dX9_next_90 (v := zI (0)) rfl ?_
            refine hv_iald C dX9_next_91 0 rfl (0) (rfl) (by omega) (by omega) (v := (zI (g 0))) rfl ?_
            refine hv_icmp_lt C dX9_next_92 (tgt := 101) (by decide) (zI_lt (by omega)) (fun hc92 => ?_) (fun hc92 => ?_)
            · refine hv_bipush C dX9_next_101 (v := zI (100)) (by decide +kernel) ?_
              refine hv_iload_n C dX9_next_103 1 rfl ?_
              refine hv_imul C dX9_next_104 (zI_mul _ _) ?_
              refine hv_bipush C dX9_next_105 (v := zI (10)) (by decide +kernel) ?_
              refine hv_iload C dX9_next_107 0 rfl ?_
              refine hv_if_eq C dX9_next_109 (tgt := 116) (by decide) (zI_eq0 (by omega)) (fun hc109 => ?_) (fun hc109 => ?_)
              · refine hv_iload_n C dX9_next_116 3 rfl ?_
                refine hv_imul C dX9_next_117 (zI_mul _ _) ?_
                refine hv_iadd C dX9_next_118 (zI_add _ _) ?_
                refine hv_iload C dX9_next_119 2 rfl ?_
                refine hv_iadd C dX9_next_121 (zI_add _ _) ?_
                exact hv_iret C M dX9_next_122 rfl rfl () trivial (hv_rv (by unfold mz_n; dsimp only; (repeat' split) <;> omega)) [] (List.Perm.of_eq (by first | rfl | exact (List.append_nil _).symm)) (Nat.le_refl _) (Nat.le_refl _)
              · refine hv_iload_n C dX9_next_112 1 rfl ?_
                refine hv_goto C dX9_next_113 (tgt := 117) (by decide) ?_
                refine hv_imul C dX9_next_117 (zI_mul _ _) ?_
                refine hv_iadd C dX9_next_118 (zI_add _ _) ?_
                refine hv_iload C dX9_next_119 2 rfl ?_
                refine hv_iadd C dX9_next_121 (zI_add _ _) ?_
                exact hv_iret C M dX9_next_122 rfl rfl () trivial (hv_rv (by unfold mz_n; dsimp only; (repeat' split) <;> omega)) [] (List.Perm.of_eq (by first | rfl | exact (List.append_nil _).symm)) (Nat.le_refl _) (Nat.le_refl _)
            · refine hv_sipush C dX9_next_95 (v := zI (1000)) (by decide +kernel) ?_
              refine hv_goto C dX9_next_98 (tgt := 122) (by decide) ?_
              exact hv_iret C M dX9_next_122 rfl rfl () trivial (hv_rv (by unfold mz_n; dsimp only; (repeat' split) <;> omega)) [] (List.Perm.of_eq (by first | rfl | exact (List.append_nil _).symm)) (Nat.le_refl _) (Nat.le_refl _)
          · refine hv_iconst C dX9_next_81 (v := zI (1)) rfl ?_
            refine hv_goto C dX9_next_82 (tgt := 86) (by decide) ?_
            refine hv_istore C dX9_next_86 (lw := [(5, .int (zI (1))), (2, .int (zI ((((c9 / 100 : Nat) : Int)) + (1)))), (4, .int (zI (1))), (3, .int (zI ((((c9 / 10 % 10 : Nat) : Int)) + (0)))), (0, .ref r9), (1, .int (zI ((c9 : Int))))]) (by decide) rfl ?_
            refine hv_iload_n C dX9_next_88 1 rfl ?_
            refine hv_aload_n C dX9_next_89 4 rfl ?_
            refine hv_iconst C dX9_next_90 (v := zI (0)) rfl ?_
            refine hv_iald C dX9_next_91 0 rfl (0) (rfl) (by omega) (by omega) (v := (zI (g 0))) rfl ?_
            refine hv_icmp_lt C dX9_next_92 (tgt := 101) (by decide) (zI_lt (by omega)) (fun hc92 => ?_) (fun hc92 => ?_)
            · refine hv_bipush C dX9_next_101 (v := zI (100)) (by decide +kernel) ?_
              refine hv_iload_n C dX9_next_103 1 rfl ?_
              refine hv_imul C dX9_next_104 (zI_mul _ _) ?_
              refine hv_bipush C dX9_next_105 (v := zI (10)) (by decide +kernel) ?_
              refine hv_iload C dX9_next_107 0 rfl ?_
              refine hv_if_eq C dX9_next_109 (tgt := 116) (by decide) (zI_eq0 (by omega)) (fun hc109 => ?_) (fun hc109 => ?_)
              · refine hv_iload_n C dX9_next_116 3 rfl ?_
                refine hv_imul C dX9_next_117 (zI_mul _ _) ?_
                refine hv_iadd C dX9_next_118 (zI_add _ _) ?_
                refine hv_iload C dX9_next_119 2 rfl ?_
                refine hv_iadd C dX9_next_121 (zI_add _ _) ?_
                exact hv_iret C M dX9_next_122 rfl rfl () trivial (hv_rv (by unfold mz_n; dsimp only; (repeat' split) <;> omega)) [] (List.Perm.of_eq (by first | rfl | exact (List.append_nil _).symm)) (Nat.le_refl _) (Nat.le_refl _)
              · refine hv_iload_n C dX9_next_112 1 rfl ?_
                refine hv_goto C dX9_next_113 (tgt := 117) (by decide) ?_
                refine hv_imul C dX9_next_117 (zI_mul _ _) ?_
                refine hv_iadd C dX9_next_118 (zI_add _ _) ?_
                refine hv_iload C dX9_next_119 2 rfl ?_
                refine hv_iadd C dX9_next_121 (zI_add _ _) ?_
                exact hv_iret C M dX9_next_122 rfl rfl () trivial (hv_rv (by unfold mz_n; dsimp only; (repeat' split) <;> omega)) [] (List.Perm.of_eq (by first | rfl | exact (List.append_nil _).symm)) (Nat.le_refl _) (Nat.le_refl _)
            · refine hv_sipush C dX9_next_95 (v := zI (1000)) (by decide +kernel) ?_
              refine hv_goto C dX9_next_98 (tgt := 122) (by decide) ?_
              exact hv_iret C M dX9_next_122 rfl rfl () trivial (hv_rv (by unfold mz_n; dsimp only; (repeat' split) <;> omega)) [] (List.Perm.of_eq (by first | rfl | exact (List.append_nil _).symm)) (Nat.le_refl _) (Nat.le_refl _)
  · refine hv_iconst C dX9_next_28 (v := zI (1)) rfl ?_
    refine hv_goto C dX9_next_29 (tgt := 33) (by decide) ?_
    refine hv_iadd C dX9_next_33 (zI_add _ _) ?_
    refine hv_istore_n C dX9_next_34 (lw := [(3, .int (zI ((((c9 / 10 % 10 : Nat) : Int)) + (1)))), (4, .int (zI (((c9 % 10 + 1 : Nat) : Int)))), (2, .int (zI (((c9 / 100 : Nat) : Int)))), (0, .ref r9), (1, .int (zI ((c9 : Int))))]) (by decide) rfl ?_
    refine hv_iload C dX9_next_35 1 rfl ?_
    refine hv_iconst C dX9_next_37 (v := zI (3)) rfl ?_
    refine hv_icmp_le C dX9_next_38 (tgt := 45) (by decide) (zI_le (by omega)) (fun hc38 => ?_) (fun hc38 => ?_)
    · refine hv_iload C dX9_next_45 1 rfl ?_
      refine hv_istore C dX9_next_47 (lw := [(4, .int (zI (((c9 % 10 + 1 : Nat) : Int)))), (3, .int (zI ((((c9 / 10 % 10 : Nat) : Int)) + (1)))), (2, .int (zI (((c9 / 100 : Nat) : Int)))), (0, .ref r9), (1, .int (zI ((c9 : Int))))]) (by decide) rfl ?_
      refine hv_iload_n C dX9_next_49 2 rfl ?_
      refine hv_iload_n C dX9_next_50 1 rfl ?_
      refine hv_iload_n C dX9_next_51 2 rfl ?_
      refine hv_isub C dX9_next_52 (zI_sub _ _) ?_
      refine hv_aload_n C dX9_next_53 3 rfl ?_
      refine hv_iconst C dX9_next_54 (v := zI (5)) rfl ?_
      refine hv_iald C dX9_next_55 0 rfl (5) (rfl) (by omega) (by omega) (v := (zI (g 5))) rfl ?_
      refine hv_icmp_ge C dX9_next_56 (tgt := 66) (by decide) (zI_le (by omega)) (fun hc56 => ?_) (fun hc56 => ?_)
      · refine hv_iconst C dX9_next_66 (v := zI (1)) rfl ?_
        refine hv_goto C dX9_next_67 (tgt := 71) (by decide) ?_
        refine hv_iadd C dX9_next_71 (zI_add _ _) ?_
        refine hv_istore_n C dX9_next_72 (lw := [(2, .int (zI ((((c9 / 100 : Nat) : Int)) + (1)))), (4, .int (zI (((c9 % 10 + 1 : Nat) : Int)))), (3, .int (zI ((((c9 / 10 % 10 : Nat) : Int)) + (1)))), (0, .ref r9), (1, .int (zI ((c9 : Int))))]) (by decide) rfl ?_
        refine hv_iload_n C dX9_next_73 0 rfl ?_
        refine hv_iload_n C dX9_next_74 4 rfl ?_
        refine hv_bipush C dX9_next_75 (v := zI (100)) (by decide +kernel) ?_
        refine hv_idiv C dX9_next_77 (z := zI (((c9 / 100 : Nat) : Int))) ((zI_ne0 (by omega)).mpr (by omega)) ((zI_div (by omega)).trans (zI_c (by omega))) ?_
        refine hv_icmp_le C dX9_next_78 (tgt := 85) (by decide) (zI_le (by omega)) (fun hc78 => ?_) (fun hc78 => ?_)
        · refine hv_iconst C dX9_next_85 (v := zI (0)) rfl ?_
          refine hv_istore C dX9_next_86 (lw := [(5, .int (zI (0))), (2, .int (zI ((((c9 / 100 : Nat) : Int)) + (1)))), (4, .int (zI (((c9 % 10 + 1 : Nat) : Int)))), (3, .int (zI ((((c9 / 10 % 10 : Nat) : Int)) + (1)))), (0, .ref r9), (1, .int (zI ((c9 : Int))))]) (by decide) rfl ?_
          refine hv_iload_n C dX9_next_88 1 rfl ?_
          refine hv_aload_n C dX9_next_89 4 rfl ?_
          refine hv_iconst C dX9_next_90 (v := zI (0)) rfl ?_
          refine hv_iald C dX9_next_91 0 rfl (0) (rfl) (by omega) (by omega) (v := (zI (g 0))) rfl ?_
          refine hv_icmp_lt C dX9_next_92 (tgt := 101) (by decide) (zI_lt (by omega)) (fun hc92 => ?_) (fun hc92 => ?_)
          · refine hv_bipush C dX9_next_101 (v := zI (100)) (by decide +kernel) ?_
            refine hv_iload_n C dX9_next_103 1 rfl ?_
            refine hv_imul C dX9_next_104 (zI_mul _ _) ?_
            refine hv_bipush C dX9_next_105 (v := zI (10)) (by decide +kernel) ?_
            refine hv_iload C dX9_next_107 0 rfl ?_
            refine hv_if_eq C dX9_next_109 (tgt := 116) (by decide) (zI_eq0 (by omega)) (fun hc109 => ?_) (fun hc109 => ?_)
            · refine hv_iload_n C dX9_next_116 3 rfl ?_
              refine hv_imul C dX9_next_117 (zI_mul _ _) ?_
              refine hv_iadd C dX9_next_118 (zI_add _ _) ?_
              refine hv_iload C dX9_next_119 2 rfl ?_
              refine hv_iadd C dX9_next_121 (zI_add _ _) ?_
              exact hv_iret C M dX9_next_122 rfl rfl () trivial (hv_rv (by unfold mz_n; dsimp only; (repeat' split) <;> omega)) [] (List.Perm.of_eq (by first | rfl | exact (List.append_nil _).symm)) (Nat.le_refl _) (Nat.le_refl _)
            · refine hv_iload_n C dX9_next_112 1 rfl ?_
              refine hv_goto C dX9_next_113 (tgt := 117) (by decide) ?_
              refine hv_imul C dX9_next_117 (zI_mul _ _) ?_
              refine hv_iadd C dX9_next_118 (zI_add _ _) ?_
              refine hv_iload C dX9_next_119 2 rfl ?_
              refine hv_iadd C dX9_next_121 (zI_add _ _) ?_
              exact hv_iret C M dX9_next_122 rfl rfl () trivial (hv_rv (by unfold mz_n; dsimp only; (repeat' split) <;> omega)) [] (List.Perm.of_eq (by first | rfl | exact (List.append_nil _).symm)) (Nat.le_refl _) (Nat.le_refl _)
          · refine hv_sipush C dX9_next_95 (v := zI (1000)) (by decide +kernel) ?_
            refine hv_goto C dX9_next_98 (tgt := 122) (by decide) ?_
            exact hv_iret C M dX9_next_122 rfl rfl () trivial (hv_rv (by unfold mz_n; dsimp only; (repeat' split) <;> omega)) [] (List.Perm.of_eq (by first | rfl | exact (List.append_nil _).symm)) (Nat.le_refl _) (Nat.le_refl _)
        · refine hv_iconst C dX9_next_81 (v := zI (1)) rfl ?_
          refine hv_goto C dX9_next_82 (tgt := 86) (by decide) ?_
          refine hv_istore C dX9_next_86 (lw := [(5, .int (zI (1))), (2, .int (zI ((((c9 / 100 : Nat) : Int)) + (1)))), (4, .int (zI (((c9 % 10 + 1 : Nat) : Int)))), (3, .int (zI ((((c9 / 10 % 10 : Nat) : Int)) + (1)))), (0, .ref r9), (1, .int (zI ((c9 : Int))))]) (by decide) rfl ?_
          refine hv_iload_n C dX9_next_88 1 rfl ?_
          refine hv_aload_n C dX9_next_89 4 rfl ?_
          refine hv_iconst C dX9_next_90 (v := zI (0)) rfl ?_
          refine hv_iald C dX9_next_91 0 rfl (0) (rfl) (by omega) (by omega) (v := (zI (g 0))) rfl ?_
          refine hv_icmp_lt C dX9_next_92 (tgt := 101) (by decide) (zI_lt (by omega)) (fun hc92 => ?_) (fun hc92 => ?_)
          · refine hv_bipush C dX9_next_101 (v := zI (100)) (by decide +kernel) ?_
            refine hv_iload_n C dX9_next_103 1 rfl ?_
            refine hv_imul C dX9_next_104 (zI_mul _ _) ?_
            refine hv_bipush C dX9_next_105 (v := zI (10)) (by decide +kernel) ?_
            refine hv_iload C dX9_next_107 0 rfl ?_
            refine hv_if_eq C dX9_next_109 (tgt := 116) (by decide) (zI_eq0 (by omega)) (fun hc109 => ?_) (fun hc109 => ?_)
            · refine hv_iload_n C dX9_next_116 3 rfl ?_
              refine hv_imul C dX9_next_117 (zI_mul _ _) ?_
              refine hv_iadd C dX9_next_118 (zI_add _ _) ?_
              refine hv_iload C dX9_next_119 2 rfl ?_
              refine hv_iadd C dX9_next_121 (zI_add _ _) ?_
              exact hv_iret C M dX9_next_122 rfl rfl () trivial (hv_rv (by unfold mz_n; dsimp only; (repeat' split) <;> omega)) [] (List.Perm.of_eq (by first | rfl | exact (List.append_nil _).symm)) (Nat.le_refl _) (Nat.le_refl _)
            · refine hv_iload_n C dX9_next_112 1 rfl ?_
              refine hv_goto C dX9_next_113 (tgt := 117) (by decide) ?_
              refine hv_imul C dX9_next_117 (zI_mul _ _) ?_
              refine hv_iadd C dX9_next_118 (zI_add _ _) ?_
              refine hv_iload C dX9_next_119 2 rfl ?_
              refine hv_iadd C dX9_next_121 (zI_add _ _) ?_
              exact hv_iret C M dX9_next_122 rfl rfl () trivial (hv_rv (by unfold mz_n; dsimp only; (repeat' split) <;> omega)) [] (List.Perm.of_eq (by first | rfl | exact (List.append_nil _).symm)) (Nat.le_refl _) (Nat.le_refl _)
          · refine hv_sipush C dX9_next_95 (v := zI (1000)) (by decide +kernel) ?_
            refine hv_goto C dX9_next_98 (tgt := 122) (by decide) ?_
            exact hv_iret C M dX9_next_122 rfl rfl () trivial (hv_rv (by unfold mz_n; dsimp only; (repeat' split) <;> omega)) [] (List.Perm.of_eq (by first | rfl | exact (List.append_nil _).symm)) (Nat.le_refl _) (Nat.le_refl _)
      · refine hv_iload_n C dX9_next_59 1 rfl ?_
        refine hv_aload_n C dX9_next_60 3 rfl ?_
        refine hv_iconst C dX9_next_61 (v := zI (0)) rfl ?_
        refine hv_iald C dX9_next_62 0 rfl (0) (rfl) (by omega) (by omega) (v := (zI (g 0))) rfl ?_
        refine hv_icmp_lt C dX9_next_63 (tgt := 70) (by decide) (zI_lt (by omega)) (fun hc63 => ?_) (fun hc63 => ?_)
        · refine hv_iconst C dX9_next_70 (v := zI (0)) rfl ?_
          refine hv_iadd C dX9_next_71 (zI_add _ _) ?_
          refine hv_istore_n C dX9_next_72 (lw := [(2, .int (zI ((((c9 / 100 : Nat) : Int)) + (0)))), (4, .int (zI (((c9 % 10 + 1 : Nat) : Int)))), (3, .int (zI ((((c9 / 10 % 10 : Nat) : Int)) + (1)))), (0, .ref r9), (1, .int (zI ((c9 : Int))))]) (by decide) rfl ?_
          refine hv_iload_n C dX9_next_73 0 rfl ?_
          refine hv_iload_n C dX9_next_74 4 rfl ?_
          refine hv_bipush C dX9_next_75 (v := zI (100)) (by decide +kernel) ?_
          refine hv_idiv C dX9_next_77 (z := zI (((c9 / 100 : Nat) : Int))) ((zI_ne0 (by omega)).mpr (by omega)) ((zI_div (by omega)).trans (zI_c (by omega))) ?_
          refine hv_icmp_le C dX9_next_78 (tgt := 85) (by decide) (zI_le (by omega)) (fun hc78 => ?_) (fun hc78 => ?_)
          · refine hv_iconst C dX9_next_85 (v := zI (0)) rfl ?_
            refine hv_istore C dX9_next_86 (lw := [(5, .int (zI (0))), (2, .int (zI ((((c9 / 100 : Nat) : Int)) + (0)))), (4, .int (zI (((c9 % 10 + 1 : Nat) : Int)))), (3, .int (zI ((((c9 / 10 % 10 : Nat) : Int)) + (1)))), (0, .ref r9), (1, .int (zI ((c9 : Int))))]) (by decide) rfl ?_
            refine hv_iload_n C dX9_next_88 1 rfl ?_
            refine hv_aload_n C dX9_next_89 4 rfl ?_
            refine hv_iconst C dX9_next_90 (v := zI (0)) rfl ?_
            refine hv_iald C dX9_next_91 0 rfl (0) (rfl) (by omega) (by omega) (v := (zI (g 0))) rfl ?_
            refine hv_icmp_lt C dX9_next_92 (tgt := 101) (by decide) (zI_lt (by omega)) (fun hc92 => ?_) (fun hc92 => ?_)
            · refine hv_bipush C dX9_next_101 (v := zI (100)) (by decide +kernel) ?_
              refine hv_iload_n C dX9_next_103 1 rfl ?_
              refine hv_imul C dX9_next_104 (zI_mul _ _) ?_
              refine hv_bipush C dX9_next_105 (v := zI (10)) (by decide +kernel) ?_
              refine hv_iload C dX9_next_107 0 rfl ?_
              refine hv_if_eq C dX9_next_109 (tgt := 116) (by decide) (zI_eq0 (by omega)) (fun hc109 => ?_) (fun hc109 => ?_)
              · refine hv_iload_n C dX9_next_116 3 rfl ?_
                refine hv_imul C dX9_next_117 (zI_mul _ _) ?_
                refine hv_iadd C dX9_next_118 (zI_add _ _) ?_
                refine hv_iload C dX9_next_119 2 rfl ?_
                refine hv_iadd C dX9_next_121 (zI_add _ _) ?_
                exact hv_iret C M dX9_next_122 rfl rfl () trivial (hv_rv (by unfold mz_n; dsimp only; (repeat' split) <;> omega)) [] (List.Perm.of_eq (by first | rfl | exact (List.append_nil _).symm)) (Nat.le_refl _) (Nat.le_refl _)
              · refine hv_iload_n C dX9_next_112 1 rfl ?_
                refine hv_goto C dX9_next_113 (tgt := 117) (by decide) ?_
                refine hv_imul C dX9_next_117 (zI_mul _ _) ?_
                refine hv_iadd C dX9_next_118 (zI_add _ _) ?_
                refine hv_iload C dX9_next_119 2 rfl ?_
                refine hv_iadd C dX9_next_121 (zI_add _ _) ?_
                exact hv_iret C M dX9_next_122 rfl rfl () trivial (hv_rv (by unfold mz_n; dsimp only; (repeat' split) <;> omega)) [] (List.Perm.of_eq (by first | rfl | exact (List.append_nil _).symm)) (Nat.le_refl _) (Nat.le_refl _)
            · refine hv_sipush C dX9_next_95 (v := zI (1000)) (by decide +kernel) ?_
              refine hv_goto C dX9_next_98 (tgt := 122) (by decide) ?_
              exact hv_iret C M dX9_next_122 rfl rfl () trivial (hv_rv (by unfold mz_n; dsimp only; (repeat' split) <;> omega)) [] (List.Perm.of_eq (by first | rfl | exact (List.append_nil _).symm)) (Nat.le_refl _) (Nat.le_refl _)
          · refine hv_iconst C dX9_next_81 (v := zI (1)) rfl ?_
            refine hv_goto C dX9_next_82 (tgt := 86) (by decide) ?_
            refine hv_istore C dX9_next_86 (lw := [(5, .int (zI (1))), (2, .int (zI ((((c9 / 100 : Nat) : Int)) + (0)))), (4, .int (zI (((c9 % 10 + 1 : Nat) : Int)))), (3, .int (zI ((((c9 / 10 % 10 : Nat) : Int)) + (1)))), (0, .ref r9), (1, .int (zI ((c9 : Int))))]) (by decide) rfl ?_
            refine hv_iload_n C dX9_next_88 1 rfl ?_
            refine hv_aload_n C dX9_next_89 4 rfl ?_
            refine hv_iconst C dX9_next_90 (v := zI (0)) rfl ?_
            refine hv_iald C dX9_next_91 0 rfl (0) (rfl) (by omega) (by omega) (v := (zI (g 0))) rfl ?_
            refine hv_icmp_lt C dX9_next_92 (tgt := 101) (by decide) (zI_lt (by omega)) (fun hc92 => ?_) (fun hc92 => ?_)
            · refine hv_bipush C dX9_next_101 (v := zI (100)) (by decide +kernel) ?_
              refine hv_iload_n C dX9_next_103 1 rfl ?_
              refine hv_imul C dX9_next_104 (zI_mul _ _) ?_
              refine hv_bipush C dX9_next_105 (v := zI (10)) (by decide +kernel) ?_
              refine hv_iload C dX9_next_107 0 rfl ?_
              refine hv_if_eq C dX9_next_109 (tgt := 116) (by decide) (zI_eq0 (by omega)) (fun hc109 => ?_) (fun hc109 => ?_)
              · refine hv_iload_n C dX9_next_116 3 rfl ?_
                refine hv_imul C dX9_next_117 (zI_mul _ _) ?_
                refine hv_iadd C dX9_next_118 (zI_add _ _) ?_
                refine hv_iload C dX9_next_119 2 rfl ?_
                refine hv_iadd C dX9_next_121 (zI_add _ _) ?_
                exact hv_iret C M dX9_next_122 rfl rfl () trivial (hv_rv (by unfold mz_n; dsimp only; (repeat' split) <;> omega)) [] (List.Perm.of_eq (by first | rfl | exact (List.append_nil _).symm)) (Nat.le_refl _) (Nat.le_refl _)
              · refine hv_iload_n C dX9_next_112 1 rfl ?_
                refine hv_goto C dX9_next_113 (tgt := 117) (by decide) ?_
                refine hv_imul C dX9_next_117 (zI_mul _ _) ?_
                refine hv_iadd C dX9_next_118 (zI_add _ _) ?_
                refine hv_iload C dX9_next_119 2 rfl ?_
                refine hv_iadd C dX9_next_121 (zI_add _ _) ?_
                exact hv_iret C M dX9_next_122 rfl rfl () trivial (hv_rv (by unfold mz_n; dsimp only; (repeat' split) <;> omega)) [] (List.Perm.of_eq (by first | rfl | exact (List.append_nil _).symm)) (Nat.le_refl _) (Nat.le_refl _)
            · refine hv_sipush C dX9_next_95 (v := zI (1000)) (by decide +kernel) ?_
              refine hv_goto C dX9_next_98 (tgt := 122) (by decide) ?_
              exact hv_iret C M dX9_next_122 rfl rfl () trivial (hv_rv (by unfold mz_n; dsimp only; (repeat' split) <;> omega)) [] (List.Perm.of_eq (by first | rfl | exact (List.append_nil _).symm)) (Nat.le_refl _) (Nat.le_refl _)
        · refine hv_iconst C dX9_next_66 (v := zI (1)) rfl ?_
          refine hv_goto C dX9_next_67 (tgt := 71) (by decide) ?_
          refine hv_iadd C dX9_next_71 (zI_add _ _) ?_
          refine hv_istore_n C dX9_next_72 (lw := [(2, .int (zI ((((c9 / 100 : Nat) : Int)) + (1)))), (4, .int (zI (((c9 % 10 + 1 : Nat) : Int)))), (3, .int (zI ((((c9 / 10 % 10 : Nat) : Int)) + (1)))), (0, .ref r9), (1, .int (zI ((c9 : Int))))]) (by decide) rfl ?_
          refine hv_iload_n C dX9_next_73 0 rfl ?_
          refine hv_iload_n C dX9_next_74 4 rfl ?_
          refine hv_bipush C dX9_next_75 (v := zI (100)) (by decide +kernel) ?_
          refine hv_idiv C dX9_next_77 (z := zI (((c9 / 100 : Nat) : Int))) ((zI_ne0 (by omega)).mpr (by omega)) ((zI_div (by omega)).trans (zI_c (by omega))) ?_
          refine hv_icmp_le C dX9_next_78 (tgt := 85) (by decide) (zI_le (by omega)) (fun hc78 => ?_) (fun hc78 => ?_)
          · refine hv_iconst C dX9_next_85 (v := zI (0)) rfl ?_
            refine hv_istore C dX9_next_86 (lw := [(5, .int (zI (0))), (2, .int (zI ((((c9 / 100 : Nat) : Int)) + (1)))), (4, .int (zI (((c9 % 10 + 1 : Nat) : Int)))), (3, .int (zI ((((c9 / 10 % 10 : Nat) : Int)) + (1)))), (0, .ref r9), (1, .int (zI ((c9 : Int))))]) (by decide) rfl ?_
            refine hv_iload_n C dX9_next_88 1 rfl ?_
            refine hv_aload_n C dX9_next_89 4 rfl ?_
            refine hv_iconst C dX9_next_90 (v := zI (0)) rfl ?_
            refine hv_iald C dX9_next_91 0 rfl (0) (rfl) (by omega) (by omega) (v := (zI (g 0))) rfl ?_
            refine hv_icmp_lt C dX9_next_92 (tgt := 101) (by decide) (zI_lt (by omega)) (fun hc92 => ?_) (fun hc92 => ?_)
            · refine hv_bipush C dX9_next_101 (v := zI (100)) (by decide +kernel) ?_
              refine hv_iload_n C dX9_next_103 1 rfl ?_
              refine hv_imul C dX9_next_104 (zI_mul _ _) ?_
              refine hv_bipush C dX9_next_105 (v := zI (10)) (by decide +kernel) ?_
              refine hv_iload C dX9_next_107 0 rfl ?_
              refine hv_if_eq C dX9_next_109 (tgt := 116) (by decide) (zI_eq0 (by omega)) (fun hc109 => ?_) (fun hc109 => ?_)
              · refine hv_iload_n C dX9_next_116 3 rfl ?_
                refine hv_imul C dX9_next_117 (zI_mul _ _) ?_
                refine hv_iadd C dX9_next_118 (zI_add _ _) ?_
                refine hv_iload C dX9_next_119 2 rfl ?_
                refine hv_iadd C dX9_next_121 (zI_add _ _) ?_
                exact hv_iret C M dX9_next_122 rfl rfl () trivial (hv_rv (by unfold mz_n; dsimp only; (repeat' split) <;> omega)) [] (List.Perm.of_eq (by first | rfl | exact (List.append_nil _).symm)) (Nat.le_refl _) (Nat.le_refl _)
              · refine hv_iload_n C dX9_next_112 1 rfl ?_
                refine hv_goto C dX9_next_113 (tgt := 117) (by decide) ?_
                refine hv_imul C dX9_next_117 (zI_mul _ _) ?_
                refine hv_iadd C dX9_next_118 (zI_add _ _) ?_
                refine hv_iload C dX9_next_119 2 rfl ?_
                refine hv_iadd C dX9_next_121 (zI_add _ _) ?_
                exact hv_iret C M dX9_next_122 rfl rfl () trivial (hv_rv (by unfold mz_n; dsimp only; (repeat' split) <;> omega)) [] (List.Perm.of_eq (by first | rfl | exact (List.append_nil _).symm)) (Nat.le_refl _) (Nat.le_refl _)
            · refine hv_sipush C dX9_next_95 (v := zI (1000)) (by decide +kernel) ?_
              refine hv_goto C dX9_next_98 (tgt := 122) (by decide) ?_
              exact hv_iret C M dX9_next_122 rfl rfl () trivial (hv_rv (by unfold mz_n; dsimp only; (repeat' split) <;> omega)) [] (List.Perm.of_eq (by first | rfl | exact (List.append_nil _).symm)) (Nat.le_refl _) (Nat.le_refl _)
          · refine hv_iconst C dX9_next_81 (v := zI (1)) rfl ?_
            refine hv_goto C dX9_next_82 (tgt := 86) (by decide) ?_
            refine hv_istore C dX9_next_86 (lw := [(5, .int (zI (1))), (2, .int (zI ((((c9 / 100 : Nat) : Int)) + (1)))), (4, .int (zI (((c9 % 10 + 1 : Nat) : Int)))), (3, .int (zI ((((c9 / 10 % 10 : Nat) : Int)) + (1)))), (0, .ref r9), (1, .int (zI ((c9 : Int))))]) (by decide) rfl ?_
            refine hv_iload_n C dX9_next_88 1 rfl ?_
            refine hv_aload_n C dX9_next_89 4 rfl ?_
            refine hv_iconst C dX9_next_90 (v := zI (0)) rfl ?_
            refine hv_iald C dX9_next_91 0 rfl (0) (rfl) (by omega) (by omega) (v := (zI (g 0))) rfl ?_
            refine hv_icmp_lt C dX9_next_92 (tgt := 101) (by decide) (zI_lt (by omega)) (fun hc92 => ?_) (fun hc92 => ?_)
            · refine hv_bipush C dX9_next_101 (v := zI (100)) (by decide +kernel) ?_
              refine hv_iload_n C dX9_next_103 1 rfl ?_
              refine hv_imul C dX9_next_104 (zI_mul _ _) ?_
              refine hv_bipush C dX9_next_105 (v := zI (10)) (by decide +kernel) ?_
              refine hv_iload C dX9_next_107 0 rfl ?_
              refine hv_if_eq C dX9_next_109 (tgt := 116) (by decide) (zI_eq0 (by omega)) (fun hc109 => ?_) (fun hc109 => ?_)
              · refine hv_iload_n C dX9_next_116 3 rfl ?_
                refine hv_imul C dX9_next_117 (zI_mul _ _) ?_
                refine hv_iadd C dX9_next_118 (zI_add _ _) ?_
                refine hv_iload C dX9_next_119 2 rfl ?_
                refine hv_iadd C dX9_next_121 (zI_add _ _) ?_
                exact hv_iret C M dX9_next_122 rfl rfl () trivial (hv_rv (by unfold mz_n; dsimp only; (repeat' split) <;> omega)) [] (List.Perm.of_eq (by first | rfl | exact (List.append_nil _).symm)) (Nat.le_refl _) (Nat.le_refl _)
              · refine hv_iload_n C dX9_next_112 1 rfl ?_
                refine hv_goto C dX9_next_113 (tgt := 117) (by decide) ?_
                refine hv_imul C dX9_next_117 (zI_mul _ _) ?_
                refine hv_iadd C dX9_next_118 (zI_add _ _) ?_
                refine hv_iload C dX9_next_119 2 rfl ?_
                refine hv_iadd C dX9_next_121 (zI_add _ _) ?_
                exact hv_iret C M dX9_next_122 rfl rfl () trivial (hv_rv (by unfold mz_n; dsimp only; (repeat' split) <;> omega)) [] (List.Perm.of_eq (by first | rfl | exact (List.append_nil _).symm)) (Nat.le_refl _) (Nat.le_refl _)
            · refine hv_sipush C dX9_next_95 (v := zI (1000)) (by decide +kernel) ?_
              refine hv_goto C dX9_next_98 (tgt := 122) (by decide) ?_
              exact hv_iret C M dX9_next_122 rfl rfl () trivial (hv_rv (by unfold mz_n; dsimp only; (repeat' split) <;> omega)) [] (List.Perm.of_eq (by first | rfl | exact (List.append_nil _).symm)) (Nat.le_refl _) (Nat.le_refl _)
    · refine hv_iconst C dX9_next_41 (v := zI (1)) rfl ?_
      refine hv_goto C dX9_next_42 (tgt := 47) (by decide) ?_
      refine hv_istore C dX9_next_47 (lw := [(4, .int (zI (1))), (3, .int (zI ((((c9 / 10 % 10 : Nat) : Int)) + (1)))), (2, .int (zI (((c9 / 100 : Nat) : Int)))), (0, .ref r9), (1, .int (zI ((c9 : Int))))]) (by decide) rfl ?_
      refine hv_iload_n C dX9_next_49 2 rfl ?_
      refine hv_iload_n C dX9_next_50 1 rfl ?_
      refine hv_iload_n C dX9_next_51 2 rfl ?_
      refine hv_isub C dX9_next_52 (zI_sub _ _) ?_
      refine hv_aload_n C dX9_next_53 3 rfl ?_
      refine hv_iconst C dX9_next_54 (v := zI (5)) rfl ?_
      refine hv_iald C dX9_next_55 0 rfl (5) (rfl) (by omega) (by omega) (v := (zI (g 5))) rfl ?_
      refine hv_icmp_ge C dX9_next_56 (tgt := 66) (by decide) (zI_le (by omega)) (fun hc56 => ?_) (fun hc56 => ?_)
      · refine hv_iconst C dX9_next_66 (v := zI (1)) rfl ?_
        refine hv_goto C dX9_next_67 (tgt := 71) (by decide) ?_
        refine hv_iadd C dX9_next_71 (zI_add _ _) ?_
        refine hv_istore_n C dX9_next_72 (lw := [(2, .int (zI ((((c9 / 100 : Nat) : Int)) + (1)))), (4, .int (zI (1))), (3, .int (zI ((((c9 / 10 % 10 : Nat) : Int)) + (1)))), (0, .ref r9), (1, .int (zI ((c9 : Int))))]) (by decide) rfl ?_
        refine hv_iload_n C dX9_next_73 0 rfl ?_
        refine hv_iload_n C dX9_next_74 4 rfl ?_
        refine hv_bipush C dX9_next_75 (v := zI (100)) (by decide +kernel) ?_
        refine hv_idiv C dX9_next_77 (z := zI (((c9 / 100 : Nat) : Int))) ((zI_ne0 (by omega)).mpr (by omega)) ((zI_div (by omega)).trans (zI_c (by omega))) ?_
        refine hv_icmp_le C dX9_next_78 (tgt := 85) (by decide) (zI_le (by omega)) (fun hc78 => ?_) (fun hc78 => ?_)
        · refine hv_iconst C dX9_next_85 (v := zI (0)) rfl ?_
          refine hv_istore C dX9_next_86 (lw := [(5, .int (zI (0))), (2, .int (zI ((((c9 / 100 : Nat) : Int)) + (1)))), (4, .int (zI (1))), (3, .int (zI ((((c9 / 10 % 10 : Nat) : Int)) + (1)))), (0, .ref r9), (1, .int (zI ((c9 : Int))))]) (by decide) rfl ?_
          refine hv_iload_n C dX9_next_88 1 rfl ?_
          refine hv_aload_n C dX9_next_89 4 rfl ?_
          refine hv_iconst C dX9_next_90 (v := zI (0)) rfl ?_
          refine hv_iald C dX9_next_91 0 rfl (0) (rfl) (by omega) (by omega) (v := (zI (g 0))) rfl ?_
          refine hv_icmp_lt C dX9_next_92 (tgt := 101) (by decide) (zI_lt (by omega)) (fun hc92 => ?_) (fun hc92 => ?_)
          · refine hv_bipush C dX9_next_101 (v := zI (100)) (by decide +kernel) ?_
            refine hv_iload_n C dX9_next_103 1 rfl ?_
            refine hv_imul C dX9_next_104 (zI_mul _ _) ?_
            refine hv_bipush C dX9_next_105 (v := zI (10)) (by decide +kernel) ?_
            refine hv_iload C dX9_next_107 0 rfl ?_
            refine hv_if_eq C dX9_next_109 (tgt := 116) (by decide) (zI_eq0 (by omega)) (fun hc109 => ?_) (fun hc109 => ?_)
            · refine hv_iload_n C dX9_next_116 3 rfl ?_
              refine hv_imul C dX9_next_117 (zI_mul _ _) ?_
              refine hv_iadd C dX9_next_118 (zI_add _ _) ?_
              refine hv_iload C dX9_next_119 2 rfl ?_
              refine hv_iadd C dX9_next_121 (zI_add _ _) ?_
              exact hv_iret C M dX9_next_122 rfl rfl () trivial (hv_rv (by unfold mz_n; dsimp only; (repeat' split) <;> omega)) [] (List.Perm.of_eq (by first | rfl | exact (List.append_nil _).symm)) (Nat.le_refl _) (Nat.le_refl _)
            · refine hv_iload_n C dX9_next_112 1 rfl ?_
              refine hv_goto C dX9_next_113 (tgt := 117) (by decide) ?_
              refine hv_imul C dX9_next_117 (zI_mul _ _) ?_
              refine hv_iadd C dX9_next_118 (zI_add _ _) ?_
              refine hv_iload C dX9_next_119 2 rfl ?_
              refine hv_iadd C dX9_next_121 (zI_add _ _) ?_
              exact hv_iret C M dX9_next_122 rfl rfl () trivial (hv_rv (by unfold mz_n; dsimp only; (repeat' split) <;> omega)) [] (List.Perm.of_eq (by first | rfl | exact (List.append_nil _).symm)) (Nat.le_refl _) (Nat.le_refl _)
          · refine hv_sipush C dX9_next_95 (v := zI (1000)) (by decide +kernel) ?_
            refine hv_goto C dX9_next_98 (tgt := 122) (by decide) ?_
            exact hv_iret C M dX9_next_122 rfl rfl () trivial (hv_rv (by unfold mz_n; dsimp only; (repeat' split) <;> omega)) [] (List.Perm.of_eq (by first | rfl | exact (List.append_nil _).symm)) (Nat.le_refl _) (Nat.le_refl _)
        · refine hv_iconst C dX9_next_81 (v := zI (1)) rfl ?_
          refine hv_goto C dX9_next_82 (tgt := 86) (by decide) ?_
          refine hv_istore C dX9_next_86 (lw := [(5, .int (zI (1))), (2, .int (zI ((((c9 / 100 : Nat) : Int)) + (1)))), (4, .int (zI (1))), (3, .int (zI ((((c9 / 10 % 10 : Nat) : Int)) + (1)))), (0, .ref r9), (1, .int (zI ((c9 : Int))))]) (by decide) rfl ?_
          refine hv_iload_n C dX9_next_88 1 rfl ?_
          refine hv_aload_n C dX9_next_89 4 rfl ?_
          refine hv_iconst C dX9_next_90 (v := zI (0)) rfl ?_
          refine hv_iald C dX9_next_91 0 rfl (0) (rfl) (by omega) (by omega) (v := (zI (g 0))) rfl ?_
          refine hv_icmp_lt C dX9_next_92 (tgt := 101) (by decide) (zI_lt (by omega)) (fun hc92 => ?_) (fun hc92 => ?_)
          · refine hv_bipush C dX9_next_101 (v := zI (100)) (by decide +kernel) ?_
            refine hv_iload_n C dX9_next_103 1 rfl ?_
            refine hv_imul C dX9_next_104 (zI_mul _ _) ?_
            refine hv_bipush C dX9_next_105 (v := zI (10)) (by decide +kernel) ?_
            refine hv_iload C dX9_next_107 0 rfl ?_
            refine hv_if_eq C dX9_next_109 (tgt := 116) (by decide) (zI_eq0 (by omega)) (fun hc109 => ?_) (fun hc109 => ?_)
            · refine hv_iload_n C dX9_next_116 3 rfl ?_
              refine hv_imul C dX9_next_117 (zI_mul _ _) ?_
              refine hv_iadd C dX9_next_118 (zI_add _ _) ?_
              refine hv_iload C dX9_next_119 2 rfl ?_
              refine hv_iadd C dX9_next_121 (zI_add _ _) ?_
              exact hv_iret C M dX9_next_122 rfl rfl () trivial (hv_rv (by unfold mz_n; dsimp only; (repeat' split) <;> omega)) [] (List.Perm.of_eq (by first | rfl | exact (List.append_nil _).symm)) (Nat.le_refl _) (Nat.le_refl _)
            · refine hv_iload_n C dX9_next_112 1 rfl ?_
              refine hv_goto C dX9_next_113 (tgt := 117) (by decide) ?_
              refine hv_imul C dX9_next_117 (zI_mul _ _) ?_
              refine hv_iadd C dX9_next_118 (zI_add _ _) ?_
              refine hv_iload C dX9_next_119 2 rfl ?_
              refine hv_iadd C dX9_next_121 (zI_add _ _) ?_
              exact hv_iret C M dX9_next_122 rfl rfl () trivial (hv_rv (by unfold mz_n; dsimp only; (repeat' split) <;> omega)) [] (List.Perm.of_eq (by first | rfl | exact (List.append_nil _).symm)) (Nat.le_refl _) (Nat.le_refl _)
          · refine hv_sipush C dX9_next_95 (v := zI (1000)) (by decide +kernel) ?_
            refine hv_goto C dX9_next_98 (tgt := 122) (by decide) ?_
            exact hv_iret C M dX9_next_122 rfl rfl () trivial (hv_rv (by unfold mz_n; dsimp only; (repeat' split) <;> omega)) [] (List.Perm.of_eq (by first | rfl | exact (List.append_nil _).symm)) (Nat.le_refl _) (Nat.le_refl _)
      · refine hv_iload_n C dX9_next_59 1 rfl ?_
        refine hv_aload_n C dX9_next_60 3 rfl ?_
        refine hv_iconst C dX9_next_61 (v := zI (0)) rfl ?_
        refine hv_iald C dX9_next_62 0 rfl (0) (rfl) (by omega) (by omega) (v := (zI (g 0))) rfl ?_
        refine hv_icmp_lt C dX9_next_63 (tgt := 70) (by decide) (zI_lt (by omega)) (fun hc63 => ?_) (fun hc63 => ?_)
        · refine hv_iconst C dX9_next_70 (v := zI (0)) rfl ?_
          refine hv_iadd C dX9_next_71 (zI_add _ _) ?_
          refine hv_istore_n C dX9_next_72 (lw := [(2, .int (zI ((((c9 / 100 : Nat) : Int)) + (0)))), (4, .int (zI (1))), (3, .int (zI ((((c9 / 10 % 10 : Nat) : Int)) + (1)))), (0, .ref r9), (1, .int (zI ((c9 : Int))))]) (by decide) rfl ?_
          refine hv_iload_n C dX9_next_73 0 rfl ?_
          refine hv_iload_n C dX9_next_74 4 rfl ?_
          refine hv_bipush C dX9_next_75 (v := zI (100)) (by decide +kernel) ?_
          refine hv_idiv C dX9_next_77 (z := zI (((c9 / 100 : Nat) : Int))) ((zI_ne0 (by omega)).mpr (by omega)) ((zI_div (by omega)).trans (zI_c (by omega))) ?_
          refine hv_icmp_le C dX9_next_78 (tgt := 85) (by decide) (zI_le (by omega)) (fun hc78 => ?_) (fun hc78 => ?_)
          · refine hv_iconst C dX9_next_85 (v := zI (0)) rfl ?_
            refine hv_istore C dX9_next_86 (lw := [(5, .int (zI (0))), (2, .int (zI ((((c9 / 100 : Nat) : Int)) + (0)))), (4, .int (zI (1))), (3, .int (zI ((((c9 / 10 % 10 : Nat) : Int)) + (1)))), (0, .ref r9), (1, .int (zI ((c9 : Int))))]) (by decide) rfl ?_
            refine hv_iload_n C dX9_next_88 1 rfl ?_
            refine hv_aload_n C dX9_next_89 4 rfl ?_
            refine hv_iconst C dX9_next_90 (v := zI (0)) rfl ?_
            refine hv_iald C dX9_next_91 0 rfl (0) (rfl) (by omega) (by omega) (v := (zI (g 0))) rfl ?_
            refine hv_icmp_lt C dX9_next_92 (tgt := 101) (by decide) (zI_lt (by omega)) (fun hc92 => ?_) (fun hc92 => ?_)
            · refine hv_bipush C dX9_next_101 (v := zI (100)) (by decide +kernel) ?_
              refine hv_iload_n C dX9_next_103 1 rfl ?_
              refine hv_imul C dX9_next_104 (zI_mul _ _) ?_
              refine hv_bipush C dX9_next_105 (v := zI (10)) (by decide +kernel) ?_
              refine hv_iload C dX9_next_107 0 rfl ?_
              refine hv_if_eq C dX9_next_109 (tgt := 116) (by decide) (zI_eq0 (by omega)) (fun hc109 => ?_) (fun hc109 => ?_)
              · refine hv_iload_n C dX9_next_116 3 rfl ?_
                refine hv_imul C dX9_next_117 (zI_mul _ _) ?_
                refine hv_iadd C dX9_next_118 (zI_add _ _) ?_
                refine hv_iload C dX9_next_119 2 rfl ?_
                refine hv_iadd C dX9_next_121 (zI_add _ _) ?_
                exact hv_iret C M dX9_next_122 rfl rfl () trivial (hv_rv (by unfold mz_n; dsimp only; (repeat' split) <;> omega)) [] (List.Perm.of_eq (by first | rfl | exact (List.append_nil _).symm)) (Nat.le_refl _) (Nat.le_refl _)
              · refine hv_iload_n C dX9_next_112 1 rfl ?_
                refine hv_goto C dX9_next_113 (tgt := 117) (by decide) ?_
                refine hv_imul C dX9_next_117 (zI_mul _ _) ?_
                refine hv_iadd C dX9_next_118 (zI_add _ _) ?_
                refine hv_iload C dX9_next_119 2 rfl ?_
                refine hv_iadd C dX9_next_121 (zI_add _ _) ?_
                exact hv_iret C M dX9_next_122 rfl rfl () trivial (hv_rv (by unfold mz_n; dsimp only; (repeat' split) <;> omega)) [] (List.Perm.of_eq (by first | rfl | exact (List.append_nil _).symm)) (Nat.le_refl _) (Nat.le_refl _)
            · refine hv_sipush C dX9_next_95 (v := zI (1000)) (by decide +kernel) ?_
              refine hv_goto C dX9_next_98 (tgt := 122) (by decide) ?_
              exact hv_iret C M dX9_next_122 rfl rfl () trivial (hv_rv (by unfold mz_n; dsimp only; (repeat' split) <;> omega)) [] (List.Perm.of_eq (by first | rfl | exact (List.append_nil _).symm)) (Nat.le_refl _) (Nat.le_refl _)
          · refine hv_iconst C dX9_next_81 (v := zI (1)) rfl ?_
            refine hv_goto C dX9_next_82 (tgt := 86) (by decide) ?_
            refine hv_istore C dX9_next_86 (lw := [(5, .int (zI (1))), (2, .int (zI ((((c9 / 100 : Nat) : Int)) + (0)))), (4, .int (zI (1))), (3, .int (zI ((((c9 / 10 % 10 : Nat) : Int)) + (1)))), (0, .ref r9), (1, .int (zI ((c9 : Int))))]) (by decide) rfl ?_
            refine hv_iload_n C dX9_next_88 1 rfl ?_
            refine hv_aload_n C dX9_next_89 4 rfl ?_
            refine hv_iconst C dX9_next_90 (v := zI (0)) rfl ?_
            refine hv_iald C dX9_next_91 0 rfl (0) (rfl) (by omega) (by omega) (v := (zI (g 0))) rfl ?_
            refine hv_icmp_lt C dX9_next_92 (tgt := 101) (by decide) (zI_lt (by omega)) (fun hc92 => ?_) (fun hc92 => ?_)
            · refine hv_bipush C dX9_next_101 (v := zI (100)) (by decide +kernel) ?_
              refine hv_iload_n C dX9_next_103 1 rfl ?_
              refine hv_imul C dX9_next_104 (zI_mul _ _) ?_
              refine hv_bipush C dX9_next_105 (v := zI (10)) (by decide +kernel) ?_
              refine hv_iload C dX9_next_107 0 rfl ?_
              refine hv_if_eq C dX9_next_109 (tgt := 116) (by decide) (zI_eq0 (by omega)) (fun hc109 => ?_) (fun hc109 => ?_)
              · refine hv_iload_n C dX9_next_116 3 rfl ?_
                refine hv_imul C dX9_next_117 (zI_mul _ _) ?_
                refine hv_iadd C dX9_next_118 (zI_add _ _) ?_
                refine hv_iload C dX9_next_119 2 rfl ?_
                refine hv_iadd C dX9_next_121 (zI_add _ _) ?_
                exact hv_iret C M dX9_next_122 rfl rfl () trivial (hv_rv (by unfold mz_n; dsimp only; (repeat' split) <;> omega)) [] (List.Perm.of_eq (by first | rfl | exact (List.append_nil _).symm)) (Nat.le_refl _) (Nat.le_refl _)
              · refine hv_iload_n C dX9_next_112 1 rfl ?_
                refine hv_goto C dX9_next_113 (tgt := 117) (by decide) ?_
                refine hv_imul C dX9_next_117 (zI_mul _ _) ?_
                refine hv_iadd C dX9_next_118 (zI_add _ _) ?_
                refine hv_iload C dX9_next_119 2 rfl ?_
                refine hv_iadd C dX9_next_121 (zI_add _ _) ?_
                exact hv_iret C M dX9_next_122 rfl rfl () trivial (hv_rv (by unfold mz_n; dsimp only; (repeat' split) <;> omega)) [] (List.Perm.of_eq (by first | rfl | exact (List.append_nil _).symm)) (Nat.le_refl _) (Nat.le_refl _)
            · refine hv_sipush C dX9_next_95 (v := zI (1000)) (by decide +kernel) ?_
              refine hv_goto C dX9_next_98 (tgt := 122) (by decide) ?_
              exact hv_iret C M dX9_next_122 rfl rfl () trivial (hv_rv (by unfold mz_n; dsimp only; (repeat' split) <;> omega)) [] (List.Perm.of_eq (by first | rfl | exact (List.append_nil _).symm)) (Nat.le_refl _) (Nat.le_refl _)
        · refine hv_iconst C dX9_next_66 (v := zI (1)) rfl ?_
          refine hv_goto C dX9_next_67 (tgt := 71) (by decide) ?_
          refine hv_iadd C dX9_next_71 (zI_add _ _) ?_
          refine hv_istore_n C dX9_next_72 (lw := [(2, .int (zI ((((c9 / 100 : Nat) : Int)) + (1)))), (4, .int (zI (1))), (3, .int (zI ((((c9 / 10 % 10 : Nat) : Int)) + (1)))), (0, .ref r9), (1, .int (zI ((c9 : Int))))]) (by decide) rfl ?_
          refine hv_iload_n C dX9_next_73 0 rfl ?_
          refine hv_iload_n C dX9_next_74 4 rfl ?_
          refine hv_bipush C dX9_next_75 (v := zI (100)) (by decide +kernel) ?_
          refine hv_idiv C dX9_next_77 (z := zI (((c9 / 100 : Nat) : Int))) ((zI_ne0 (by omega)).mpr (by omega)) ((zI_div (by omega)).trans (zI_c (by omega))) ?_
          refine hv_icmp_le C dX9_next_78 (tgt := 85) (by decide) (zI_le (by omega)) (fun hc78 => ?_) (fun hc78 => ?_)
          · refine hv_iconst C dX9_next_85 (v := zI (0)) rfl ?_
            refine hv_istore C dX9_next_86 (lw := [(5, .int (zI (0))), (2, .int (zI ((((c9 / 100 : Nat) : Int)) + (1)))), (4, .int (zI (1))), (3, .int (zI ((((c9 / 10 % 10 : Nat) : Int)) + (1)))), (0, .ref r9), (1, .int (zI ((c9 : Int))))]) (by decide) rfl ?_
            refine hv_iload_n C dX9_next_88 1 rfl ?_
            refine hv_aload_n C dX9_next_89 4 rfl ?_
            refine hv_iconst C dX9_next_90 (v := zI (0)) rfl ?_
            refine hv_iald C dX9_next_91 0 rfl (0) (rfl) (by omega) (by omega) (v := (zI (g 0))) rfl ?_
            refine hv_icmp_lt C dX9_next_92 (tgt := 101) (by decide) (zI_lt (by omega)) (fun hc92 => ?_) (fun hc92 => ?_)
            · refine hv_bipush C dX9_next_101 (v := zI (100)) (by decide +kernel) ?_
              refine hv_iload_n C dX9_next_103 1 rfl ?_
              refine hv_imul C dX9_next_104 (zI_mul _ _) ?_
              refine hv_bipush C dX9_next_105 (v := zI (10)) (by decide +kernel) ?_
              refine hv_iload C dX9_next_107 0 rfl ?_
              refine hv_if_eq C dX9_next_109 (tgt := 116) (by decide) (zI_eq0 (by omega)) (fun hc109 => ?_) (fun hc109 => ?_)
              · refine hv_iload_n C dX9_next_116 3 rfl ?_
                refine hv_imul C dX9_next_117 (zI_mul _ _) ?_
                refine hv_iadd C dX9_next_118 (zI_add _ _) ?_
                refine hv_iload C dX9_next_119 2 rfl ?_
                refine hv_iadd C dX9_next_121 (zI_add _ _) ?_
                exact hv_iret C M dX9_next_122 rfl rfl () trivial (hv_rv (by unfold mz_n; dsimp only; (repeat' split) <;> omega)) [] (List.Perm.of_eq (by first | rfl | exact (List.append_nil _).symm)) (Nat.le_refl _) (Nat.le_refl _)
              · refine hv_iload_n C dX9_next_112 1 rfl ?_
                refine hv_goto C dX9_next_113 (tgt := 117) (by decide) ?_
                refine hv_imul C dX9_next_117 (zI_mul _ _) ?_
                refine hv_iadd C dX9_next_118 (zI_add _ _) ?_
                refine hv_iload C dX9_next_119 2 rfl ?_
                refine hv_iadd C dX9_next_121 (zI_add _ _) ?_
                exact hv_iret C M dX9_next_122 rfl rfl () trivial (hv_rv (by unfold mz_n; dsimp only; (repeat' split) <;> omega)) [] (List.Perm.of_eq (by first | rfl | exact (List.append_nil _).symm)) (Nat.le_refl _) (Nat.le_refl _)
            · refine hv_sipush C dX9_next_95 (v := zI (1000)) (by decide +kernel) ?_
              refine hv_goto C dX9_next_98 (tgt := 122) (by decide) ?_
              exact hv_iret C M dX9_next_122 rfl rfl () trivial (hv_rv (by unfold mz_n; dsimp only; (repeat' split) <;> omega)) [] (List.Perm.of_eq (by first | rfl | exact (List.append_nil _).symm)) (Nat.le_refl _) (Nat.le_refl _)
          · refine hv_iconst C dX9_next_81 (v := zI (1)) rfl ?_
            refine hv_goto C dX9_next_82 (tgt := 86) (by decide) ?_
            refine hv_istore C dX9_next_86 (lw := [(5, .int (zI (1))), (2, .int (zI ((((c9 / 100 : Nat) : Int)) + (1)))), (4, .int (zI (1))), (3, .int (zI ((((c9 / 10 % 10 : Nat) : Int)) + (1)))), (0, .ref r9), (1, .int (zI ((c9 : Int))))]) (by decide) rfl ?_
            refine hv_iload_n C dX9_next_88 1 rfl ?_
            refine hv_aload_n C dX9_next_89 4 rfl ?_
            refine hv_iconst C dX9_next_90 (v := zI (0)) rfl ?_
            refine hv_iald C dX9_next_91 0 rfl (0) (rfl) (by omega) (by omega) (v := (zI (g 0))) rfl ?_
            refine hv_icmp_lt C dX9_next_92 (tgt := 101) (by decide) (zI_lt (by omega)) (fun hc92 => ?_) (fun hc92 => ?_)
            · refine hv_bipush C dX9_next_101 (v := zI (100)) (by decide +kernel) ?_
              refine hv_iload_n C dX9_next_103 1 rfl ?_
              refine hv_imul C dX9_next_104 (zI_mul _ _) ?_
              refine hv_bipush C dX9_next_105 (v := zI (10)) (by decide +kernel) ?_
              refine hv_iload C dX9_next_107 0 rfl ?_
              refine hv_if_eq C dX9_next_109 (tgt := 116) (by decide) (zI_eq0 (by omega)) (fun hc109 => ?_) (fun hc109 => ?_)
              · refine hv_iload_n C dX9_next_116 3 rfl ?_
                refine hv_imul C dX9_next_117 (zI_mul _ _) ?_
                refine hv_iadd C dX9_next_118 (zI_add _ _) ?_
                refine hv_iload C dX9_next_119 2 rfl ?_
                refine hv_iadd C dX9_next_121 (zI_add _ _) ?_
                exact hv_iret C M dX9_next_122 rfl rfl () trivial (hv_rv (by unfold mz_n; dsimp only; (repeat' split) <;> omega)) [] (List.Perm.of_eq (by first | rfl | exact (List.append_nil _).symm)) (Nat.le_refl _) (Nat.le_refl _)
              · refine hv_iload_n C dX9_next_112 1 rfl ?_
                refine hv_goto C dX9_next_113 (tgt := 117) (by decide) ?_
                refine hv_imul C dX9_next_117 (zI_mul _ _) ?_
                refine hv_iadd C dX9_next_118 (zI_add _ _) ?_
                refine hv_iload C dX9_next_119 2 rfl ?_
                refine hv_iadd C dX9_next_121 (zI_add _ _) ?_
                exact hv_iret C M dX9_next_122 rfl rfl () trivial (hv_rv (by unfold mz_n; dsimp only; (repeat' split) <;> omega)) [] (List.Perm.of_eq (by first | rfl | exact (List.append_nil _).symm)) (Nat.le_refl _) (Nat.le_refl _)
            · refine hv_sipush C dX9_next_95 (v := zI (1000)) (by decide +kernel) ?_
              refine hv_goto C dX9_next_98 (tgt := 122) (by decide) ?_
              exact hv_iret C M dX9_next_122 rfl rfl () trivial (hv_rv (by unfold mz_n; dsimp only; (repeat' split) <;> omega)) [] (List.Perm.of_eq (by first | rfl | exact (List.append_nil _).symm)) (Nat.le_refl _) (Nat.le_refl _)

theorem mz_num {c9 : Nat} : (100 * ((c9 / 100 : Nat) : Int) + 10 * ((c9 / 10 % 10 : Nat) : Int) + ((c9 % 10 : Nat) : Int)).toNat = c9 := by omega
theorem mz_may {S r h c9 : Nat} (q : c9 / 10 % 10 < S ∧ c9 / 100 ≤ c9 / 10 % 10 ∧ c9 / 10 % 10 - c9 / 100 < r ∧ 1 ≤ c9 % 10 ∧ c9 % 10 ≤ 3 ∧ c9 < 1000) : decide (¬ sp_cc h c9 = h) = sp_ca S r h ((c9 / 100 : Nat) : Int) ((c9 / 10 % 10 : Nat) : Int) ((c9 % 10 : Nat) : Int) := by
  by_cases e : sp_cc h c9 = h
  · rw [decide_eq_false (fun n => n e), mz_caf (fun n => n.2 (by rw [mz_num]; exact e))]
  · rw [decide_eq_true e, sp_ca_iff.mpr ⟨by omega, by rw [mz_num]; exact e⟩]

set_option maxHeartbeats 4000000 in
set_option maxRecDepth 100000 in
theorem k_X9_may (l : Launch) (D : va_G) (dA : Nat → ClassId) (xt nw tr di ke ik wt : Nat) (rf sz ac ld sp ou : Int) (m9 : Nat) (r9 : Nat) (g : Nat → Int) (hg : WF g) {zh zc : Int} (h : Nat) (eh : zh = (h : Int)) (hh : h < 4 ^ gS g) (c9 : Nat) (ec : zc = (c9 : Int)) (hc : c9 ∈ wo_cls (gS g) (gR g)) : hv_Ct l yX9_may (hw_W yX9_may cX9_may 4 (some .boolean)) 3 D dA [.ref m9, .ref r9, .int (zI (zh)), .int (zI (zc))] ([(m9, .inr (7, [.int (zI (rf)), .ref xt, .int (zI (sz)), .ref nw, .ref tr, .ref di, .int (zI (ac)), .ref ke, .ref ik, .ref wt, .int (zI (ld)), .int (zI (sp)), .int (zI (ou))])), (r9, .inl (dA 0, 12, .inl (fun i => zI (g i))))]) 0 0 (S := Unit) (fun _ => some (.int (zI (zB (decide (¬ sp_cc h c9 = h)))))) (fun _ => True) (fun _ => [(m9, .inr (7, [.int (zI (rf)), .ref xt, .int (zI (sz)), .ref nw, .ref tr, .ref di, .int (zI (ac)), .ref ke, .ref ik, .ref wt, .int (zI (ld)), .int (zI (sp)), .int (zI (ou))])), (r9, .inl (dA 0, 12, .inl (fun i => zI (g i))))]) := by
  subst eh
  subst ec
  have hSS := hg.S
  have hcl := mz_cls (gS g) (by have := hg.S; omega) (gR g) (by have := hg.R; omega) c9 hc
  have hhx := sp_hlt hg.S.2 hh
  refine hv_of (cc := cX9_may) (maxL := 4) (ret := (some .boolean)) (own := RX9) rfl (by decide) rfl (Nat.le_of_ble_eq_true rfl) ?_
  intro p e s m args below meth c C M
  refine hv_lveq (lv' := [(0, .ref m9), (1, .ref r9), (2, .int (zI ((h : Int)))), (3, .int (zI ((c9 : Int))))]) rfl ?_
  refine hv_aload_n C dX9_may_0 1 rfl ?_
  refine hv_iload_n C dX9_may_1 2 rfl ?_
  refine hv_iload_n C dX9_may_2 3 rfl ?_
  refine hv_bipush C dX9_may_3 (v := zI (100)) (by decide +kernel) ?_
  refine hv_idiv C dX9_may_5 (z := zI (((c9 / 100 : Nat) : Int))) ((zI_ne0 (by omega)).mpr (by omega)) ((zI_div (by omega)).trans (zI_c (by omega))) ?_
  refine hv_iload_n C dX9_may_6 3 rfl ?_
  refine hv_bipush C dX9_may_7 (v := zI (10)) (by decide +kernel) ?_
  refine hv_idiv C dX9_may_9 (z := zI (((c9 / 10 : Nat) : Int))) ((zI_ne0 (by omega)).mpr (by omega)) ((zI_div (by omega)).trans (zI_c (by omega))) ?_
  refine hv_bipush C dX9_may_10 (v := zI (10)) (by decide +kernel) ?_
  refine hv_irem C dX9_may_12 (z := zI (((c9 / 10 % 10 : Nat) : Int))) ((zI_ne0 (by omega)).mpr (by omega)) ((zI_rem (by omega)).trans (zI_c (by omega))) ?_
  refine hv_iload_n C dX9_may_13 3 rfl ?_
  refine hv_bipush C dX9_may_14 (v := zI (10)) (by decide +kernel) ?_
  refine hv_irem C dX9_may_16 (z := zI (((c9 % 10 : Nat) : Int))) ((zI_ne0 (by omega)).mpr (by omega)) ((zI_rem (by omega)).trans (zI_c (by omega))) ?_
  refine hv_callS (As := [.ref r9, .int (zI ((h : Int))), .int (zI (((c9 / 100 : Nat) : Int))), .int (zI (((c9 / 10 % 10 : Nat) : Int))), .int (zI (((c9 % 10 : Nat) : Int)))]) (rest := []) (wc := [(r9, .inl (dA 0, 12, .inl (fun i => zI (g i))))]) (wr := [(m9, .inr (7, [.int (zI (rf)), .ref xt, .int (zI (sz)), .ref nw, .ref tr, .ref di, .int (zI (ac)), .ref ke, .ref ik, .ref wt, .int (zI (ld)), .int (zI (sp)), .int (zI (ou))]))]) C (k_X9_canClip l D dA r9 g hg h rfl hhx ((c9 / 100 : Nat) : Int) (by omega) ((c9 / 10 % 10 : Nat) : Int) (by omega) ((c9 % 10 : Nat) : Int) (by omega)) (va_cwS 5 C.1.2.2.2.2 (hw_S tw_m_RX9_80 tw_t_X9_canClip tw_n_RX9 tw_k_X9_canClip) rfl rfl rfl (by decide +kernel) ⟨Nat.le_of_ble_eq_true rfl, Nat.le_of_ble_eq_true rfl⟩) (hv_pm [1] rfl) rfl rfl (Nat.le_of_ble_eq_true rfl) dX9_may_17 ⟨Nat.le_of_ble_eq_true rfl, Nat.le_of_ble_eq_true rfl⟩ (fun _ _ => ?_)
  refine hv_eqst (st' := [.int (zI (zB (sp_ca (gS g) (gR g) h ((c9 / 100 : Nat) : Int) ((c9 / 10 % 10 : Nat) : Int) ((c9 % 10 : Nat) : Int))))]) rfl ?_
  refine hv_weq (ws' := [(r9, .inl (dA 0, 12, .inl (fun i => zI (g i)))), (m9, .inr (7, [.int (zI (rf)), .ref xt, .int (zI (sz)), .ref nw, .ref tr, .ref di, .int (zI (ac)), .ref ke, .ref ik, .ref wt, .int (zI (ld)), .int (zI (sp)), .int (zI (ou))]))]) (rfl) ?_
  refine hv_srt [1, 0] (ws' := [(m9, .inr (7, [.int (zI (rf)), .ref xt, .int (zI (sz)), .ref nw, .ref tr, .ref di, .int (zI (ac)), .ref ke, .ref ik, .ref wt, .int (zI (ld)), .int (zI (sp)), .int (zI (ou))])), (r9, .inl (dA 0, 12, .inl (fun i => zI (g i))))]) rfl ?_
  exact hv_iret C M dX9_may_20 rfl (zB_n _) () trivial (hv_rv (congrArg zB (mz_may hcl))) [] (List.Perm.of_eq (by first | rfl | exact (List.append_nil _).symm)) (Nat.le_refl _) (Nat.le_refl _)

set_option maxHeartbeats 4000000 in
set_option maxRecDepth 100000 in
theorem k_X9_tried (l : Launch) (D : va_G) (dA : Nat → ClassId) (xt nw tr di ke ik wt : Nat) (rf sz ac ld sp ou : Int) (m9 : Nat) (r9 : Nat) (g : Nat → Int) (hg : WF g) (wv : Nat → Int) {zh zc : Int} (h : Nat) (eh : zh = (h : Int)) (hh : h < 4 ^ gS g) (c9 : Nat) (ec : zc = (c9 : Int)) (hc : c9 ∈ wo_cls (gS g) (gR g)) : hv_Ct l yX9_tried (hw_W yX9_tried cX9_tried 5 (some .int)) 4 D dA [.ref m9, .ref r9, .int (zI (zh)), .int (zI (zc))] ([(m9, .inr (7, [.int (zI (rf)), .ref xt, .int (zI (sz)), .ref nw, .ref tr, .ref di, .int (zI (ac)), .ref ke, .ref ik, .ref wt, .int (zI (ld)), .int (zI (sp)), .int (zI (ou))])), (r9, .inl (dA 0, 12, .inl (fun i => zI (g i)))), (wt, .inl (dA 0, 4096, .inl (fun i => zI (wv i))))]) 0 0 (S := Unit) (fun _ => some (.int (zI (-(wv (sp_bh (gS g) (gW g) h c9)) - sp_fi g h (sp_bh (gS g) (gW g) h c9))))) (fun _ => True) (fun _ => [(m9, .inr (7, [.int (zI (rf)), .ref xt, .int (zI (sz)), .ref nw, .ref tr, .ref di, .int (zI (ac)), .ref ke, .ref ik, .ref wt, .int (zI (ld)), .int (zI (sp)), .int (zI (ou))])), (r9, .inl (dA 0, 12, .inl (fun i => zI (g i)))), (wt, .inl (dA 0, 4096, .inl (fun i => zI (wv i))))]) := by
  subst eh
  subst ec
  have hSS := hg.S
  have hcl := mz_cls (gS g) (by have := hg.S; omega) (gR g) (by have := hg.R; omega) c9 hc
  have hhx := sp_hlt hg.S.2 hh
  have hbx := Nat.lt_of_le_of_lt (sp_bh_le (gS g) (gW g) h c9) hhx
  refine hv_of (cc := cX9_tried) (maxL := 5) (ret := (some .int)) (own := RX9) rfl (by decide) rfl (Nat.le_of_ble_eq_true rfl) ?_
  intro p e s m args below meth c C M
  refine hv_lveq (lv' := [(0, .ref m9), (1, .ref r9), (2, .int (zI ((h : Int)))), (3, .int (zI ((c9 : Int))))]) rfl ?_
  refine hv_aload_n C dX9_tried_0 1 rfl ?_
  refine hv_iload_n C dX9_tried_1 2 rfl ?_
  refine hv_iload_n C dX9_tried_2 3 rfl ?_
  refine hv_bipush C dX9_tried_3 (v := zI (100)) (by decide +kernel) ?_
  refine hv_idiv C dX9_tried_5 (z := zI (((c9 / 100 : Nat) : Int))) ((zI_ne0 (by omega)).mpr (by omega)) ((zI_div (by omega)).trans (zI_c (by omega))) ?_
  refine hv_iload_n C dX9_tried_6 3 rfl ?_
  refine hv_bipush C dX9_tried_7 (v := zI (10)) (by decide +kernel) ?_
  refine hv_idiv C dX9_tried_9 (z := zI (((c9 / 10 : Nat) : Int))) ((zI_ne0 (by omega)).mpr (by omega)) ((zI_div (by omega)).trans (zI_c (by omega))) ?_
  refine hv_bipush C dX9_tried_10 (v := zI (10)) (by decide +kernel) ?_
  refine hv_irem C dX9_tried_12 (z := zI (((c9 / 10 % 10 : Nat) : Int))) ((zI_ne0 (by omega)).mpr (by omega)) ((zI_rem (by omega)).trans (zI_c (by omega))) ?_
  refine hv_iload_n C dX9_tried_13 3 rfl ?_
  refine hv_bipush C dX9_tried_14 (v := zI (10)) (by decide +kernel) ?_
  refine hv_irem C dX9_tried_16 (z := zI (((c9 % 10 : Nat) : Int))) ((zI_ne0 (by omega)).mpr (by omega)) ((zI_rem (by omega)).trans (zI_c (by omega))) ?_
  refine hv_callS (As := [.ref r9, .int (zI ((h : Int))), .int (zI (((c9 / 100 : Nat) : Int))), .int (zI (((c9 / 10 % 10 : Nat) : Int))), .int (zI (((c9 % 10 : Nat) : Int)))]) (rest := []) (wc := [(r9, .inl (dA 0, 12, .inl (fun i => zI (g i))))]) (wr := [(m9, .inr (7, [.int (zI (rf)), .ref xt, .int (zI (sz)), .ref nw, .ref tr, .ref di, .int (zI (ac)), .ref ke, .ref ik, .ref wt, .int (zI (ld)), .int (zI (sp)), .int (zI (ou))])), (wt, .inl (dA 0, 4096, .inl (fun i => zI (wv i))))]) C (k_X9_behind l D dA r9 g hg h rfl hh (c9 / 100) (c9 / 10 % 10) (c9 % 10) rfl rfl rfl (by omega) (by omega) (by omega)) (va_cwS 5 C.1.2.2.2.2 (hw_S tw_m_RX9_72 tw_t_X9_behind tw_n_RX9 tw_k_X9_behind) rfl rfl rfl (by decide +kernel) ⟨Nat.le_of_ble_eq_true rfl, Nat.le_of_ble_eq_true rfl⟩) (hv_pm [1] rfl) rfl rfl (Nat.le_of_ble_eq_true rfl) dX9_tried_17 ⟨Nat.le_of_ble_eq_true rfl, Nat.le_of_ble_eq_true rfl⟩ (fun _ _ => ?_)
  refine hv_eqst (st' := [.int (zI ((sp_bh (gS g) (gW g) h (100 * (c9 / 100) + 10 * (c9 / 10 % 10) + c9 % 10) : Int)))]) rfl ?_
  refine hv_weq (ws' := [(r9, .inl (dA 0, 12, .inl (fun i => zI (g i)))), (m9, .inr (7, [.int (zI (rf)), .ref xt, .int (zI (sz)), .ref nw, .ref tr, .ref di, .int (zI (ac)), .ref ke, .ref ik, .ref wt, .int (zI (ld)), .int (zI (sp)), .int (zI (ou))])), (wt, .inl (dA 0, 4096, .inl (fun i => zI (wv i))))]) (rfl) ?_
  refine hv_srt [1, 0, 0] (ws' := [(m9, .inr (7, [.int (zI (rf)), .ref xt, .int (zI (sz)), .ref nw, .ref tr, .ref di, .int (zI (ac)), .ref ke, .ref ik, .ref wt, .int (zI (ld)), .int (zI (sp)), .int (zI (ou))])), (r9, .inl (dA 0, 12, .inl (fun i => zI (g i)))), (wt, .inl (dA 0, 4096, .inl (fun i => zI (wv i))))]) rfl ?_
  refine hv_topi (y := zI ((sp_bh (gS g) (gW g) h c9 : Nat) : Int)) (by rw [show 100 * (c9 / 100) + 10 * (c9 / 10 % 10) + c9 % 10 = c9 by omega]) ?_
  refine hv_istore C dX9_tried_20 (lw := [(4, .int (zI ((sp_bh (gS g) (gW g) h c9 : Int)))), (0, .ref m9), (1, .ref r9), (2, .int (zI ((h : Int)))), (3, .int (zI ((c9 : Int))))]) (by decide) rfl ?_
  refine hv_aload_n C dX9_tried_22 1 rfl ?_
  refine hv_get C dX9_tried_23 (fun w h => hw_c (tw_u_9 w h)) 0 (ci := 7) rfl rfl 9 (by decide) (hw_c tw_f_RX9_29) rfl ?_
  refine hv_iload C dX9_tried_26 0 rfl ?_
  refine hv_iald C dX9_tried_28 2 rfl (sp_bh (gS g) (gW g) h c9) (zI_nat _) (by omega) (by omega) (v := (zI (wv (sp_bh (gS g) (gW g) h c9)))) rfl ?_
  refine hv_ineg C dX9_tried_29 (zI_neg _) ?_
  refine hv_aload_n C dX9_tried_30 2 rfl ?_
  refine hv_iload_n C dX9_tried_31 3 rfl ?_
  refine hv_iload C dX9_tried_32 0 rfl ?_
  refine hv_callS (As := [.ref r9, .int (zI ((h : Int))), .int (zI ((sp_bh (gS g) (gW g) h c9 : Int)))]) (rest := [.int (zI (-(wv (sp_bh (gS g) (gW g) h c9))))]) (wc := [(r9, .inl (dA 0, 12, .inl (fun i => zI (g i))))]) (wr := [(m9, .inr (7, [.int (zI (rf)), .ref xt, .int (zI (sz)), .ref nw, .ref tr, .ref di, .int (zI (ac)), .ref ke, .ref ik, .ref wt, .int (zI (ld)), .int (zI (sp)), .int (zI (ou))])), (wt, .inl (dA 0, 4096, .inl (fun i => zI (wv i))))]) C (k_X9_brings l D dA r9 g hg h (sp_bh (gS g) (gW g) h c9) rfl rfl hh (Nat.lt_of_le_of_lt (sp_bh_le _ _ _ _) hh)) (va_cwS 3 C.1.2.2.2.2 (hw_S tw_m_RX9_76 tw_t_X9_brings tw_n_RX9 tw_k_X9_brings) rfl rfl rfl (by decide +kernel) ⟨Nat.le_of_ble_eq_true rfl, Nat.le_of_ble_eq_true rfl⟩) (hv_pm [1] rfl) rfl rfl (Nat.le_of_ble_eq_true rfl) dX9_tried_34 ⟨Nat.le_of_ble_eq_true rfl, Nat.le_of_ble_eq_true rfl⟩ (fun _ _ => ?_)
  refine hv_eqst (st' := [.int (zI (sp_fi g h (sp_bh (gS g) (gW g) h c9))), .int (zI (-(wv (sp_bh (gS g) (gW g) h c9))))]) rfl ?_
  refine hv_weq (ws' := [(r9, .inl (dA 0, 12, .inl (fun i => zI (g i)))), (m9, .inr (7, [.int (zI (rf)), .ref xt, .int (zI (sz)), .ref nw, .ref tr, .ref di, .int (zI (ac)), .ref ke, .ref ik, .ref wt, .int (zI (ld)), .int (zI (sp)), .int (zI (ou))])), (wt, .inl (dA 0, 4096, .inl (fun i => zI (wv i))))]) (rfl) ?_
  refine hv_srt [1, 0, 0] (ws' := [(m9, .inr (7, [.int (zI (rf)), .ref xt, .int (zI (sz)), .ref nw, .ref tr, .ref di, .int (zI (ac)), .ref ke, .ref ik, .ref wt, .int (zI (ld)), .int (zI (sp)), .int (zI (ou))])), (r9, .inl (dA 0, 12, .inl (fun i => zI (g i)))), (wt, .inl (dA 0, 4096, .inl (fun i => zI (wv i))))]) rfl ?_
  refine hv_isub C dX9_tried_37 (zI_sub _ _) ?_
  exact hv_iret C M dX9_tried_38 rfl rfl () trivial rfl [] (List.Perm.of_eq (by first | rfl | exact (List.append_nil _).symm)) (Nat.le_refl _) (Nat.le_refl _)
