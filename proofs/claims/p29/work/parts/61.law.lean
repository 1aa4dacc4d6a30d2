set_option maxHeartbeats 4000000 in
set_option maxRecDepth 100000 in
theorem lc_all {p : Program} {l : Launch} {e : Env} {s : State} {m : MethodId} {args : Array Value} {below : List Frame} {meth : Method} {c : Code} {Q : State → Prop} {D : va_G} {dA : Nat → ClassId} {A : Nat → Prop} {sa : Nat → Nat} {b9 L9 : Nat} {xs : Nat → Int32} (C : hv_C p s m args c cL_law 8 D dA A s.heap RL (hw_W yL_thrown cL_thrown 1 (some .boolean))) (X : hy_X s A sa) (hst : l.stackTraces = false) (hX : va_X b9 L9 xs s s.heap) (hbl : b9 < s.heap.size) (hbA : ¬ A b9) (hL9 : L9 ≤ 260) (a b : Nat → Nat) (t : Int) (ht : 10 ≤ t ∧ t ≤ 36) (KE : ∀ (k : Nat) (v : ob_L) (h h9 : ob_H), k ≤ 37 → hv_V p l e room_1 s m args below meth c 8 D A s.heap Q (30 + 1062 * k) (600 + 105360 * k) (ob_W dA a v h ++ ob_W dA b v h9) [(5, .int (zI ((k : Int)))), (4, .int (zI (1))), (3, .int (zI (t))), (2, .ref (b 0)), (1, .ref (a 0)), (0, .ref b9)] [] 171) : ∀ (n9 k : Nat) (v : ob_L) (h h9 : ob_H), k + n9 = 37 → ob_J v → ob_B (54 * (k : Int)) v → ob_k h → ob_k h9 → hv_V p l e room_1 s m args below meth c 8 D A s.heap Q (30 + 1062 * k) (600 + 105360 * k) (ob_W dA a v h ++ ob_W dA b v h9) [(5, .int (zI ((k : Int)))), (4, .int (zI (1))), (3, .int (zI (t))), (2, .ref (b 0)), (1, .ref (a 0)), (0, .ref b9)] [] 34 := by
  intro n9
  induction n9 with
  | zero =>
    intro k v h h9 hk37 hJ hB hk hk9
    refine hv_iload C dL_law_34 0 rfl ?_
    refine hv_iload_n C dL_law_36 2 rfl ?_
    refine hv_icmp_ge C dL_law_37 (tgt := 171) (by decide) (zI_le (by omega)) (fun hc37 => ?_) (fun hc37 => ?_)
    · exact KE k v h h9 (by omega)
    · exact absurd hc37 (by omega)
  | succ n9 ih =>
    intro k v h h9 hk37 hJ hB hk hk9
    refine hv_iload C dL_law_34 0 rfl ?_
    refine hv_iload_n C dL_law_36 2 rfl ?_
    refine hv_icmp_ge C dL_law_37 (tgt := 171) (by decide) (zI_le (by omega)) (fun hc37 => ?_) (fun hc37 => ?_)
    · exact KE k v h h9 (by omega)
    · refine hv_iload C dL_law_40 1 rfl ?_
      refine hv_if_eq C dL_law_42 (tgt := 171) (by decide) (zI_eq0 (by omega)) (fun hc42 => ?_) (fun hc42 => ?_)
      · exact absurd hc42 (by omega)
      · refine hv_aload_n C dL_law_45 5 rfl ?_
        refine hv_iconst C dL_law_46 (v := zI (1)) rfl ?_
        refine hv_iload C dL_law_47 0 rfl ?_
        refine hv_iadd C dL_law_49 (z := zI (((1 + k : Nat) : Int))) ((zI_add _ _).trans (zI_c (by omega))) ?_
        refine hc_callS (As := [.ref b9, .int (zI (((1 + k : Nat) : Int)))]) (rest := []) C hX hbl hbA (k_L_cell l D dA b9 L9 xs hL9 (1 + k) (by omega) (by rfl)) (va_cwS 2 C.1.2.2.2.2 (hw_S tw_m_RL_168 tw_t_L_cell tw_n_RL tw_k_L_cell) rfl rfl rfl (by decide +kernel) ⟨Nat.le_of_ble_eq_true rfl, Nat.le_of_ble_eq_true rfl⟩) rfl rfl (Nat.le_of_ble_eq_true rfl) dL_law_50 ⟨by show 30 + 1062 * k + 0 ≤ 600104; omega, by show 600 + 105360 * k + 0 ≤ 7301314; omega⟩ (fun x hx => ?_)
        refine hv_weq (ws' := ob_W dA a v h ++ ob_W dA b v h9) (List.nil_append _) ?_
        refine hv_eqst (st' := [.int (zI (x))]) rfl ?_
        refine hv_istore C dL_law_53 (lw := [(6, .int (zI (x))), (5, .int (zI ((k : Int)))), (4, .int (zI (1))), (3, .int (zI (t))), (2, .ref (b 0)), (1, .ref (a 0)), (0, .ref b9)]) (by decide) rfl ?_
        refine hv_aload_n C dL_law_55 5 rfl ?_
        refine hv_iload C dL_law_56 0 rfl ?_
        refine hz_callS (As := [.ref (a 0), .int (zI (x))]) (rest := []) (wc := ob_W dA a v h) (wr := ob_W dA b v h9) C X (k_L_act l D dA sa hst a v h hJ hk x (by omega)) (va_cwS 2 C.1.2.2.2.2 (hw_S tw_m_RL_172 tw_t_L_act tw_n_RL tw_k_L_act) rfl rfl rfl (by decide +kernel) ⟨Nat.le_of_ble_eq_true rfl, Nat.le_of_ble_eq_true rfl⟩) (List.Perm.refl _) rfl rfl (Nat.le_of_ble_eq_true rfl) dL_law_58 ⟨by show 30 + 1062 * k + 8 ≤ 600104; omega, by show 600 + 105360 * k + 44 ≤ 7301314; omega⟩ (fun u2 hu2 => ?_)
        refine hv_eqst (st' := [.int (zI ((ac v x).1))]) rfl ?_
        refine hv_istore C dL_law_61 (lw := [(7, .int (zI ((ac v x).1))), (6, .int (zI (x))), (5, .int (zI ((k : Int)))), (4, .int (zI (1))), (3, .int (zI (t))), (2, .ref (b 0)), (1, .ref (a 0)), (0, .ref b9)]) (by decide) rfl ?_
        refine hv_aload_n C dL_law_63 5 rfl ?_
        refine hv_iload C dL_law_64 1 rfl ?_
        refine hv_ldc C dL_law_66 (hw_c tw_o_RL_175) ?_
        refine hv_topi (y := zI (100000)) (by decide +kernel) ?_
        refine hv_irem C dL_law_68 (z := zI (x % 100000)) ((zI_ne0 (by omega)).mpr (by omega)) ((zI_rem (by omega)).trans (zI_c (by omega))) ?_
        refine hz_callS (As := [.ref (b 0), .int (zI (x % 100000))]) (rest := []) (wc := ob_W dA b v h9) (wr := ob_W dA a ((ac v x).2) u2) C X (k_L_refuses l D dA sa hst b v h9 hJ hk9 (x % 100000) (by omega)) (va_cwS 2 C.1.2.2.2.2 (hw_S tw_m_RL_176 tw_t_L_refuses tw_n_RL tw_k_L_refuses) rfl rfl rfl (by decide +kernel) ⟨Nat.le_of_ble_eq_true rfl, Nat.le_of_ble_eq_true rfl⟩) List.perm_append_comm rfl rfl (Nat.le_of_ble_eq_true rfl) dL_law_69 ⟨by show 30 + 1062 * k + 8 + 113 ≤ 600104; omega, by show 600 + 105360 * k + 44 + 46030 ≤ 7301314; omega⟩ (fun u3 hu3 => ?_)
        refine hv_perm (ws' := ob_W dA a ((ac v x).2) u2 ++ ob_W dA b v u3) List.perm_append_comm ?_
        refine hv_eqst (st' := [.int (zI (1))]) rfl ?_
        refine hv_if_eq C dL_law_72 (tgt := 162) (by decide) (zI_eq0 (by omega)) (fun hc72 => ?_) (fun hc72 => ?_)
        · exact absurd hc72 (by omega)
        · refine hv_aload_n C dL_law_75 5 rfl ?_
          refine hv_iload C dL_law_76 1 rfl ?_
          refine hz_callS (As := [.ref (b 0), .int (zI (x))]) (rest := []) (wc := ob_W dA b v u3) (wr := ob_W dA a ((ac v x).2) u2) C X (k_L_act l D dA sa hst b v u3 hJ hu3 x (by omega)) (va_cwS 2 C.1.2.2.2.2 (hw_S tw_m_RL_172 tw_t_L_act tw_n_RL tw_k_L_act) rfl rfl rfl (by decide +kernel) ⟨Nat.le_of_ble_eq_true rfl, Nat.le_of_ble_eq_true rfl⟩) List.perm_append_comm rfl rfl (Nat.le_of_ble_eq_true rfl) dL_law_78 ⟨by show 30 + 1062 * k + 8 + 113 + 8 ≤ 600104; omega, by show 600 + 105360 * k + 44 + 46030 + 44 ≤ 7301314; omega⟩ (fun u4 hu4 => ?_)
          refine hv_perm (ws' := ob_W dA a ((ac v x).2) u2 ++ ob_W dA b ((ac v x).2) u4) List.perm_append_comm ?_
          refine hv_eqst (st' := [.int (zI ((ac v x).1))]) rfl ?_
          refine hv_iload C dL_law_81 0 rfl ?_
          refine hv_icmp_ne C dL_law_83 (tgt := 162) (by decide) Iff.rfl (fun hc83 => ?_) (fun hc83 => ?_)
          · exact absurd hc83 (by exact fun q => q rfl)
          · refine hv_aload_n C dL_law_86 5 rfl ?_
            refine hv_iload C dL_law_87 1 rfl ?_
            refine hv_sipush C dL_law_89 (v := zI (1000)) (by decide +kernel) ?_
            refine hv_irem C dL_law_92 (z := zI (x % 1000)) ((zI_ne0 (by omega)).mpr (by omega)) ((zI_rem (by omega)).trans (zI_c (by omega))) ?_
            refine hz_callS (As := [.ref (b 0), .int (zI (x % 1000))]) (rest := []) (wc := ob_W dA b ((ac v x).2) u4) (wr := ob_W dA a ((ac v x).2) u2) C X (k_L_refuses l D dA sa hst b ((ac v x).2) u4 (ac_J hJ x) hu4 (x % 1000) (by omega)) (va_cwS 2 C.1.2.2.2.2 (hw_S tw_m_RL_176 tw_t_L_refuses tw_n_RL tw_k_L_refuses) rfl rfl rfl (by decide +kernel) ⟨Nat.le_of_ble_eq_true rfl, Nat.le_of_ble_eq_true rfl⟩) List.perm_append_comm rfl rfl (Nat.le_of_ble_eq_true rfl) dL_law_93 ⟨by show 30 + 1062 * k + 8 + 113 + 8 + 113 ≤ 600104; omega, by show 600 + 105360 * k + 44 + 46030 + 44 + 46030 ≤ 7301314; omega⟩ (fun u5 hu5 => ?_)
            refine hv_perm (ws' := ob_W dA a ((ac v x).2) u2 ++ ob_W dA b ((ac v x).2) u5) List.perm_append_comm ?_
            refine hv_eqst (st' := [.int (zI (1))]) rfl ?_
            refine hv_if_eq C dL_law_96 (tgt := 162) (by decide) (zI_eq0 (by omega)) (fun hc96 => ?_) (fun hc96 => ?_)
            · exact absurd hc96 (by omega)
            · refine hv_aload_n C dL_law_99 6 rfl ?_
              refine hv_aload_n C dL_law_100 5 rfl ?_
              refine hv_iload C dL_law_101 1 rfl ?_
              refine hv_sipush C dL_law_103 (v := zI (5000)) (by decide +kernel) ?_
              refine hv_irem C dL_law_106 (z := zI (x % 5000)) ((zI_ne0 (by omega)).mpr (by omega)) ((zI_rem (by omega)).trans (zI_c (by omega))) ?_
              refine hz_callS (As := [.ref (a 0), .ref (b 0), .int (zI (x % 5000))]) (rest := []) (wc := ob_W dA a ((ac v x).2) u2 ++ ob_W dA b ((ac v x).2) u5) (wr := []) C X (k_L_alike l D dA sa hst a b ((ac v x).2) u2 u5 (ac_J hJ x) hu2 hu5 (x % 5000) (by omega)) (va_cwS 3 C.1.2.2.2.2 (hw_S tw_m_RL_180 tw_t_L_alike tw_n_RL tw_k_L_alike) rfl rfl rfl (by decide +kernel) ⟨Nat.le_of_ble_eq_true rfl, Nat.le_of_ble_eq_true rfl⟩) (List.Perm.of_eq (List.append_nil _).symm) rfl rfl (Nat.le_of_ble_eq_true rfl) dL_law_107 ⟨by show 30 + 1062 * k + 8 + 113 + 8 + 113 + 80 ≤ 600104; omega, by show 600 + 105360 * k + 44 + 46030 + 44 + 46030 + 8736 ≤ 7301314; omega⟩ (fun u6 hu6 => ?_)
              refine hv_weq (ws' := ob_W dA a ((ac v x).2) u6.1 ++ ob_W dA b ((ac v x).2) u6.2) (List.append_nil _) ?_
              refine hv_eqst (st' := [.int (zI (1))]) rfl ?_
              refine hv_if_eq C dL_law_110 (tgt := 162) (by decide) (zI_eq0 (by omega)) (fun hc110 => ?_) (fun hc110 => ?_)
              · exact absurd hc110 (by omega)
              · refine hv_iload C dL_law_113 2 rfl ?_
                refine hv_iconst C dL_law_115 (v := zI (2)) rfl ?_
                refine hv_irem C dL_law_116 (z := zI ((k : Int) % 2)) ((zI_ne0 (by omega)).mpr (by omega)) ((zI_rem (by omega)).trans (zI_c (by omega))) ?_
                refine hv_if_ne C dL_law_117 (tgt := 130) (by decide) (zI_ne0 (by omega)) (fun hc117 => ?_) (fun hc117 => ?_)
                · refine hv_aload_n C dL_law_130 5 rfl ?_
                  refine hz_callS (As := [.ref (b 0)]) (rest := []) (wc := ob_W dA b ((ac v x).2) u6.2) (wr := ob_W dA a ((ac v x).2) u6.1) C X (k_L_holds l D dA sa hst b ((ac v x).2) u6.2 (ac_J hJ x) hu6.2.1 hu6.2.2) (va_cwS 1 C.1.2.2.2.2 (hw_S tw_m_RL_184 tw_t_L_holds tw_n_RL tw_k_L_holds) rfl rfl rfl (by decide +kernel) ⟨Nat.le_of_ble_eq_true rfl, Nat.le_of_ble_eq_true rfl⟩) List.perm_append_comm rfl rfl (Nat.le_of_ble_eq_true rfl) dL_law_131 ⟨by show 30 + 1062 * k + 8 + 113 + 8 + 113 + 80 + 690 ≤ 600104; omega, by show 600 + 105360 * k + 44 + 46030 + 44 + 46030 + 8736 + 4200 ≤ 7301314; omega⟩ (fun u7 hu7 => ?_)
                  refine hv_perm (ws' := ob_W dA a ((ac v x).2) u6.1 ++ ob_W dA b ((ac v x).2) u7) List.perm_append_comm ?_
                  refine hv_eqst (st' := [.int (zI (1))]) rfl ?_
                  refine hv_if_eq C dL_law_134 (tgt := 162) (by decide) (zI_eq0 (by omega)) (fun hc134 => ?_) (fun hc134 => ?_)
                  · exact absurd hc134 (by omega)
                  · refine hv_aload_n C dL_law_137 6 rfl ?_
                    refine hv_aload_n C dL_law_138 5 rfl ?_
                    refine hz_callS (As := [.ref (a 0), .ref (b 0)]) (rest := []) (wc := ob_W dA a ((ac v x).2) u6.1 ++ ob_W dA b ((ac v x).2) u7) (wr := []) C X (k_L_best l D dA sa hst a b ((ac v x).2) u6.1 u7 (ac_J hJ x) hu6.1.1 hu7.1 hu6.1.2 hu7.2 (54 * (k : Int) + 54) (by omega) (ac_B hJ hB (by omega) x)) (va_cwS 2 C.1.2.2.2.2 (hw_S tw_m_RL_188 tw_t_L_best tw_n_RL tw_k_L_best) rfl rfl rfl (by decide +kernel) ⟨Nat.le_of_ble_eq_true rfl, Nat.le_of_ble_eq_true rfl⟩) (List.Perm.of_eq (List.append_nil _).symm) rfl rfl (Nat.le_of_ble_eq_true rfl) dL_law_139 ⟨by show 30 + 1062 * k + 8 + 113 + 8 + 113 + 80 + 690 + 29 ≤ 600104; omega, by show 600 + 105360 * k + 44 + 46030 + 44 + 46030 + 8736 + 4200 + 166 ≤ 7301314; omega⟩ (fun u8 hu8 => ?_)
                    have ha8 : hal u8.2.1 (ox_j (lg u8.1)) = true := by rw [hu8.1.2.2]; exact hu8.2.1.2
                    have hb8 : hal u8.2.2 (ox_j (lg u8.1)) = true := by rw [hu8.1.2.2]; exact hu8.2.2.2
                    refine hv_weq (ws' := ob_W dA a u8.1 u8.2.1 ++ ob_W dA b u8.1 u8.2.2) (List.append_nil _) ?_
                    refine hv_eqst (st' := [.int (zI (1))]) rfl ?_
                    refine hv_if_eq C dL_law_142 (tgt := 162) (by decide) (zI_eq0 (by omega)) (fun hc142 => ?_) (fun hc142 => ?_)
                    · exact absurd hc142 (by omega)
                    · refine hv_aload_n C dL_law_145 6 rfl ?_
                      refine hv_aload_n C dL_law_146 5 rfl ?_
                      refine hv_iload C dL_law_147 1 rfl ?_
                      refine hv_bipush C dL_law_149 (v := zI (7)) (by decide +kernel) ?_
                      refine hv_idiv C dL_law_151 (z := zI (x / 7)) ((zI_ne0 (by omega)).mpr (by omega)) ((zI_div (by omega)).trans (zI_c (by omega))) ?_
                      refine hz_callS (As := [.ref (a 0), .ref (b 0), .int (zI (x / 7))]) (rest := []) (wc := ob_W dA a u8.1 u8.2.1 ++ ob_W dA b u8.1 u8.2.2) (wr := []) C X (k_L_waters l D dA sa hst a b u8.1 u8.2.1 u8.2.2 hu8.1.1 hu8.2.1.1 hu8.2.2.1 ha8 hb8 (54 * (k : Int) + 54) hu8.1.2.1 (x / 7) (by omega)) (va_cwS 3 C.1.2.2.2.2 (hw_S tw_m_RL_192 tw_t_L_waters tw_n_RL tw_k_L_waters) rfl rfl rfl (by decide +kernel) ⟨Nat.le_of_ble_eq_true rfl, Nat.le_of_ble_eq_true rfl⟩) (List.Perm.of_eq (List.append_nil _).symm) rfl rfl (Nat.le_of_ble_eq_true rfl) dL_law_152 ⟨by show 30 + 1062 * k + 8 + 113 + 8 + 113 + 80 + 690 + 29 + 21 ≤ 600104; omega, by show 600 + 105360 * k + 44 + 46030 + 44 + 46030 + 8736 + 4200 + 166 + 110 ≤ 7301314; omega⟩ (fun u9 hu9 => ?_)
                      have ha9 : hal u9.2.1 (ox_j (lg u9.1)) = true := by rw [hu9.1.2.2]; exact hu9.2.1.2
                      have hb9 : hal u9.2.2 (ox_j (lg u9.1)) = true := by rw [hu9.1.2.2]; exact hu9.2.2.2
                      refine hv_weq (ws' := ob_W dA a u9.1 u9.2.1 ++ ob_W dA b u9.1 u9.2.2) (List.append_nil _) ?_
                      refine hv_eqst (st' := [.int (zI (1))]) rfl ?_
                      refine hv_if_eq C dL_law_155 (tgt := 162) (by decide) (zI_eq0 (by omega)) (fun hc155 => ?_) (fun hc155 => ?_)
                      · exact absurd hc155 (by omega)
                      · refine hv_iconst C dL_law_158 (v := zI (1)) rfl ?_
                        refine hv_goto C dL_law_159 (tgt := 163) (by decide) ?_
                        refine hv_istore C dL_law_163 (lw := [(4, .int (zI (1))), (7, .int (zI ((ac v x).1))), (6, .int (zI (x))), (5, .int (zI ((k : Int)))), (3, .int (zI (t))), (2, .ref (b 0)), (1, .ref (a 0)), (0, .ref b9)]) (by decide) rfl ?_
                        refine hv_iinc C dL_law_165 3 rfl (v := zI (((k + 1 : Nat) : Int))) ((zI_add _ _).trans (zI_c (by omega))) (by decide) (lw := [(5, .int (zI (((k + 1 : Nat) : Int)))), (4, .int (zI (1))), (7, .int (zI ((ac v x).1))), (6, .int (zI (x))), (3, .int (zI (t))), (2, .ref (b 0)), (1, .ref (a 0)), (0, .ref b9)]) rfl ?_
                        refine hv_goto C dL_law_168 (tgt := 34) (by decide) ?_
                        refine hv_lsub [0, 1, 4, 5, 6, 7] (lv' := [(5, .int (zI (((k + 1 : Nat) : Int)))), (4, .int (zI (1))), (3, .int (zI (t))), (2, .ref (b 0)), (1, .ref (a 0)), (0, .ref b9)]) rfl ?_
                        refine hv_widen (ce' := 30 + 1062 * (k + 1)) (sl' := 600 + 105360 * (k + 1)) (by omega) (by omega) ?_
                        exact ih (k + 1) u9.1 u9.2.1 u9.2.2 (by omega) hu9.1.1 (ob_B_mono (by omega) hu9.1.2.1) hu9.2.1.1 hu9.2.2.1
                · refine hv_aload_n C dL_law_120 6 rfl ?_
                  refine hz_callS (As := [.ref (a 0)]) (rest := []) (wc := ob_W dA a ((ac v x).2) u6.1) (wr := ob_W dA b ((ac v x).2) u6.2) C X (k_L_holds l D dA sa hst a ((ac v x).2) u6.1 (ac_J hJ x) hu6.1.1 hu6.1.2) (va_cwS 1 C.1.2.2.2.2 (hw_S tw_m_RL_184 tw_t_L_holds tw_n_RL tw_k_L_holds) rfl rfl rfl (by decide +kernel) ⟨Nat.le_of_ble_eq_true rfl, Nat.le_of_ble_eq_true rfl⟩) (List.Perm.refl _) rfl rfl (Nat.le_of_ble_eq_true rfl) dL_law_121 ⟨by show 30 + 1062 * k + 8 + 113 + 8 + 113 + 80 + 690 ≤ 600104; omega, by show 600 + 105360 * k + 44 + 46030 + 44 + 46030 + 8736 + 4200 ≤ 7301314; omega⟩ (fun u10 hu10 => ?_)
                  refine hv_eqst (st' := [.int (zI (1))]) rfl ?_
                  refine hv_if_eq C dL_law_124 (tgt := 162) (by decide) (zI_eq0 (by omega)) (fun hc124 => ?_) (fun hc124 => ?_)
                  · exact absurd hc124 (by omega)
                  · refine hv_goto C dL_law_127 (tgt := 137) (by decide) ?_
                    refine hv_aload_n C dL_law_137 6 rfl ?_
                    refine hv_aload_n C dL_law_138 5 rfl ?_
                    refine hz_callS (As := [.ref (a 0), .ref (b 0)]) (rest := []) (wc := ob_W dA a ((ac v x).2) u10 ++ ob_W dA b ((ac v x).2) u6.2) (wr := []) C X (k_L_best l D dA sa hst a b ((ac v x).2) u10 u6.2 (ac_J hJ x) hu10.1 hu6.2.1 hu10.2 hu6.2.2 (54 * (k : Int) + 54) (by omega) (ac_B hJ hB (by omega) x)) (va_cwS 2 C.1.2.2.2.2 (hw_S tw_m_RL_188 tw_t_L_best tw_n_RL tw_k_L_best) rfl rfl rfl (by decide +kernel) ⟨Nat.le_of_ble_eq_true rfl, Nat.le_of_ble_eq_true rfl⟩) (List.Perm.of_eq (List.append_nil _).symm) rfl rfl (Nat.le_of_ble_eq_true rfl) dL_law_139 ⟨by show 30 + 1062 * k + 8 + 113 + 8 + 113 + 80 + 690 + 29 ≤ 600104; omega, by show 600 + 105360 * k + 44 + 46030 + 44 + 46030 + 8736 + 4200 + 166 ≤ 7301314; omega⟩ (fun u11 hu11 => ?_)
                    have ha11 : hal u11.2.1 (ox_j (lg u11.1)) = true := by rw [hu11.1.2.2]; exact hu11.2.1.2
                    have hb11 : hal u11.2.2 (ox_j (lg u11.1)) = true := by rw [hu11.1.2.2]; exact hu11.2.2.2
                    refine hv_weq (ws' := ob_W dA a u11.1 u11.2.1 ++ ob_W dA b u11.1 u11.2.2) (List.append_nil _) ?_
                    refine hv_eqst (st' := [.int (zI (1))]) rfl ?_
                    refine hv_if_eq C dL_law_142 (tgt := 162) (by decide) (zI_eq0 (by omega)) (fun hc142 => ?_) (fun hc142 => ?_)
                    · exact absurd hc142 (by omega)
                    · refine hv_aload_n C dL_law_145 6 rfl ?_
                      refine hv_aload_n C dL_law_146 5 rfl ?_
                      refine hv_iload C dL_law_147 1 rfl ?_
                      refine hv_bipush C dL_law_149 (v := zI (7)) (by decide +kernel) ?_
                      refine hv_idiv C dL_law_151 (z := zI (x / 7)) ((zI_ne0 (by omega)).mpr (by omega)) ((zI_div (by omega)).trans (zI_c (by omega))) ?_
                      refine hz_callS (As := [.ref (a 0), .ref (b 0), .int (zI (x / 7))]) (rest := []) (wc := ob_W dA a u11.1 u11.2.1 ++ ob_W dA b u11.1 u11.2.2) (wr := []) C X (k_L_waters l D dA sa hst a b u11.1 u11.2.1 u11.2.2 hu11.1.1 hu11.2.1.1 hu11.2.2.1 ha11 hb11 (54 * (k : Int) + 54) hu11.1.2.1 (x / 7) (by omega)) (va_cwS 3 C.1.2.2.2.2 (hw_S tw_m_RL_192 tw_t_L_waters tw_n_RL tw_k_L_waters) rfl rfl rfl (by decide +kernel) ⟨Nat.le_of_ble_eq_true rfl, Nat.le_of_ble_eq_true rfl⟩) (List.Perm.of_eq (List.append_nil _).symm) rfl rfl (Nat.le_of_ble_eq_true rfl) dL_law_152 ⟨by show 30 + 1062 * k + 8 + 113 + 8 + 113 + 80 + 690 + 29 + 21 ≤ 600104; omega, by show 600 + 105360 * k + 44 + 46030 + 44 + 46030 + 8736 + 4200 + 166 + 110 ≤ 7301314; omega⟩ (fun u12 hu12 => ?_)
                      have ha12 : hal u12.2.1 (ox_j (lg u12.1)) = true := by rw [hu12.1.2.2]; exact hu12.2.1.2
                      have hb12 : hal u12.2.2 (ox_j (lg u12.1)) = true := by rw [hu12.1.2.2]; exact hu12.2.2.2
                      refine hv_weq (ws' := ob_W dA a u12.1 u12.2.1 ++ ob_W dA b u12.1 u12.2.2) (List.append_nil _) ?_
                      refine hv_eqst (st' := [.int (zI (1))]) rfl ?_
                      refine hv_if_eq C dL_law_155 (tgt := 162) (by decide) (zI_eq0 (by omega)) (fun hc155 => ?_) (fun hc155 => ?_)
                      · exact absurd hc155 (by omega)
                      · refine hv_iconst C dL_law_158 (v := zI (1)) rfl ?_
                        refine hv_goto C dL_law_159 (tgt := 163) (by decide) ?_
                        refine hv_istore C dL_law_163 (lw := [(4, .int (zI (1))), (7, .int (zI ((ac v x).1))), (6, .int (zI (x))), (5, .int (zI ((k : Int)))), (3, .int (zI (t))), (2, .ref (b 0)), (1, .ref (a 0)), (0, .ref b9)]) (by decide) rfl ?_
                        refine hv_iinc C dL_law_165 3 rfl (v := zI (((k + 1 : Nat) : Int))) ((zI_add _ _).trans (zI_c (by omega))) (by decide) (lw := [(5, .int (zI (((k + 1 : Nat) : Int)))), (4, .int (zI (1))), (7, .int (zI ((ac v x).1))), (6, .int (zI (x))), (3, .int (zI (t))), (2, .ref (b 0)), (1, .ref (a 0)), (0, .ref b9)]) rfl ?_
                        refine hv_goto C dL_law_168 (tgt := 34) (by decide) ?_
                        refine hv_lsub [0, 1, 4, 5, 6, 7] (lv' := [(5, .int (zI (((k + 1 : Nat) : Int)))), (4, .int (zI (1))), (3, .int (zI (t))), (2, .ref (b 0)), (1, .ref (a 0)), (0, .ref b9)]) rfl ?_
                        refine hv_widen (ce' := 30 + 1062 * (k + 1)) (sl' := 600 + 105360 * (k + 1)) (by omega) (by omega) ?_
                        exact ih (k + 1) u12.1 u12.2.1 u12.2.2 (by omega) hu12.1.1 (ob_B_mono (by omega) hu12.1.2.1) hu12.2.1.1 hu12.2.2.1

