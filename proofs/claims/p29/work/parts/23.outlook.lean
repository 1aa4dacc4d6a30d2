abbrev O3 (dA : Nat → ClassId) (o9 c8 k9 S w r : Nat) (kf : Nat → Int32) : va_W := [(o9, .inr (3, [.int (zI ((S : Int))), .int (zI ((w : Int))), .ref c8, .int (zI (((wo_cls S r).length : Int))), .ref k9])), (c8, .inl (dA 0, 45, .inl (wo_cf S r))), (k9, .inl (dA 1, (4 ^ S), .inl (kf)))]

set_option maxHeartbeats 4000000 in
set_option maxRecDepth 100000 in
theorem k_X5_gainAt (l : Launch) (D : va_G) (dA : Nat → ClassId) (o9 c8 k9 S w r : Nat) (hS : 2 ≤ S ∧ S ≤ 6) (hw : w < 3) (hr : 1 ≤ r ∧ r ≤ 3) (n : Nat) (hW : ∀ (b dep : Nat) (kf : Nat → Int32), sp_lv b ≤ n → b < 4 ^ S → dep + n ≤ 18 → wo_kn S w r kf → hv_Ct l yX5_worthAt (hw_W yX5_worthAt cX5_worthAt 5 (some .int)) (2 * n + 3) D dA [.ref o9, .int (zI (b : Int)), .int (zI (dep : Int))] (O3 dA o9 c8 k9 S w r kf) 0 0 (S := Nat → Int32) (fun _ => some (.int (zI (wo S w r b)))) (wo_kn S w r) (fun kf2 => O3 dA o9 c8 k9 S w r kf2)) (h c9 dep : Nat) (hlv : sp_lv h ≤ n + 1) (hh : h < 4 ^ S) (hc : sp_ok S c9) (hd : dep + (n + 1) ≤ 18) (kf : Nat → Int32) (hk : wo_kn S w r kf) : hv_Ct l yX5_gainAt (hw_W yX5_gainAt cX5_gainAt 6 (some .int)) (2 * (n + 1) + 2) D dA [.ref o9, .int (zI ((h : Int))), .int (zI ((c9 : Int))), .int (zI ((dep : Int)))] ([(o9, .inr (3, [.int (zI ((S : Int))), .int (zI ((w : Int))), .ref c8, .int (zI (((wo_cls S r).length : Int))), .ref k9])), (c8, .inl (dA 0, 45, .inl (wo_cf S r))), (k9, .inl (dA 1, (4 ^ S), .inl (kf)))]) 0 0 (S := Nat → Int32) (fun _ => some (.int (zI (wo_gain S w (wo S w r) h c9)))) (wo_kn S w r) (fun kf2 => O3 dA o9 c8 k9 S w r kf2) := by
  have hx : h < 4096 := sp_hlt hS.2 hh
  have h4S := sp_4S hS.2
  refine hv_of (cc := cX5_gainAt) (maxL := 6) (ret := (some .int)) (own := RX5) rfl (by decide) rfl (Nat.le_of_ble_eq_true rfl) ?_
  intro p e s m args below meth c C M
  refine hv_lveq (lv' := [(0, .ref o9), (1, .int (zI ((h : Int)))), (2, .int (zI ((c9 : Int)))), (3, .int (zI ((dep : Int))))]) rfl ?_
  refine hv_iload_n C dX5_gainAt_0 1 rfl ?_
  refine hv_iload_n C dX5_gainAt_1 2 rfl ?_
  refine hv_callS (As := [.int (zI ((h : Int))), .int (zI ((c9 : Int)))]) (rest := []) (wc := []) (wr := [(o9, .inr (3, [.int (zI ((S : Int))), .int (zI ((w : Int))), .ref c8, .int (zI (((wo_cls S r).length : Int))), .ref k9])), (c8, .inl (dA 0, 45, .inl (wo_cf S r))), (k9, .inl (dA 1, (4 ^ S), .inl (kf)))]) C (k_X3_clipped l D dA (h) (c9) (by have := hc.1; have := hc.2.1; have := hc.2.2; omega) (by have := hc.1; have := hc.2.1; have := hc.2.2; omega) (by have := hc.1; have := hc.2.1; have := hc.2.2; omega) (by have := hc.1; have := hc.2.1; have := hc.2.2; omega)) (va_cwS 2 C.1.2.2.2.2 (hw_S tw_m_RX5_50 tw_t_X3_clipped tw_n_RX3 tw_k_X3_clipped) rfl rfl rfl (by decide +kernel) ⟨by show _ + 1 ≤ _; simp only [hv_rm]; omega, by simp only [hv_rm]; omega⟩) (hv_pm [] rfl) rfl rfl (Nat.le_of_ble_eq_true rfl) dX5_gainAt_2 ⟨Nat.le_of_ble_eq_true rfl, Nat.le_of_ble_eq_true rfl⟩ (fun _ _ => ?_)
  refine hv_eqst (st' := [.int (zI ((sp_cc (h) (c9) : Int)))]) rfl ?_
  refine hv_weq (ws' := [(o9, .inr (3, [.int (zI ((S : Int))), .int (zI ((w : Int))), .ref c8, .int (zI (((wo_cls S r).length : Int))), .ref k9])), (c8, .inl (dA 0, 45, .inl (wo_cf S r))), (k9, .inl (dA 1, (4 ^ S), .inl (kf)))]) (rfl) ?_
  refine hv_istore C dX5_gainAt_5 (lw := [(4, .int (zI ((sp_cc (h) (c9) : Int)))), (0, .ref o9), (1, .int (zI ((h : Int)))), (2, .int (zI ((c9 : Int)))), (3, .int (zI ((dep : Int))))]) (by decide) rfl ?_
  refine hv_iload C dX5_gainAt_7 0 rfl ?_
  refine hv_iload_n C dX5_gainAt_9 2 rfl ?_
  have hle := sp_cc_le h c9
  refine hv_icmp_ne C dX5_gainAt_10 (tgt := 16) (by decide) (zI_ne (by omega)) (fun hc10 => ?_) (fun hc10 => ?_)
  · have hn : ¬ sp_cc h c9 = h := by omega
    refine hv_iload C dX5_gainAt_16 0 rfl ?_
    refine hv_aload_n C dX5_gainAt_18 1 rfl ?_
    refine hv_get C dX5_gainAt_19 (fun w h => hw_c (tw_u_5 w h)) 0 (ci := 3) rfl rfl 0 (by decide) (hw_c tw_f_RX5_24) rfl ?_
    refine hv_aload_n C dX5_gainAt_22 1 rfl ?_
    refine hv_get C dX5_gainAt_23 (fun w h => hw_c (tw_u_5 w h)) 0 (ci := 3) rfl rfl 1 (by decide) (hw_c tw_f_RX5_28) rfl ?_
    refine hv_callS (As := [.int (zI ((sp_cc (h) (c9) : Int))), .int (zI ((S : Int))), .int (zI ((w : Int)))]) (rest := []) (wc := []) (wr := [(o9, .inr (3, [.int (zI ((S : Int))), .int (zI ((w : Int))), .ref c8, .int (zI (((wo_cls S r).length : Int))), .ref k9])), (c8, .inl (dA 0, 45, .inl (wo_cf S r))), (k9, .inl (dA 1, (4 ^ S), .inl (kf)))]) C (k_X3_blown l D dA S w (sp_cc h c9) (by omega) (by omega) (by omega) hS hw (Nat.lt_of_le_of_lt (sp_cc_le h c9) hh) (Nat.lt_of_le_of_lt (sp_cc_le h c9) hx)) (va_cwS 3 C.1.2.2.2.2 (hw_S tw_m_RX5_62 tw_t_X3_blown tw_n_RX3 tw_k_X3_blown) rfl rfl rfl (by decide +kernel) ⟨by show _ + 1 ≤ _; simp only [hv_rm]; omega, by simp only [hv_rm]; omega⟩) (hv_pm [] rfl) rfl rfl (Nat.le_of_ble_eq_true rfl) dX5_gainAt_26 ⟨Nat.le_of_ble_eq_true rfl, Nat.le_of_ble_eq_true rfl⟩ (fun _ _ => ?_)
    refine hv_eqst (st' := [.int (zI ((sp_bh S w h c9 : Int)))]) rfl ?_
    refine hv_weq (ws' := [(o9, .inr (3, [.int (zI ((S : Int))), .int (zI ((w : Int))), .ref c8, .int (zI (((wo_cls S r).length : Int))), .ref k9])), (c8, .inl (dA 0, 45, .inl (wo_cf S r))), (k9, .inl (dA 1, (4 ^ S), .inl (kf)))]) (rfl) ?_
    refine hv_istore C dX5_gainAt_29 (lw := [(5, .int (zI ((sp_bh S w h c9 : Int)))), (4, .int (zI ((sp_cc (h) (c9) : Int)))), (0, .ref o9), (1, .int (zI ((h : Int)))), (2, .int (zI ((c9 : Int)))), (3, .int (zI ((dep : Int))))]) (by decide) rfl ?_
    refine hv_aload_n C dX5_gainAt_31 2 rfl ?_
    refine hv_iload C dX5_gainAt_32 0 rfl ?_
    refine hv_iload_n C dX5_gainAt_34 5 rfl ?_
    refine hv_iconst C dX5_gainAt_35 (v := zI (1)) rfl ?_
    refine hv_iadd C dX5_gainAt_36 (z := zI (((dep + 1 : Nat) : Int))) ((zI_add _ _).trans (zI_c (by omega))) ?_
    refine hv_callV (As := [.int (zI ((sp_bh S w h c9 : Int))), .int (zI (((dep + 1 : Nat) : Int)))]) (rest := []) (wc := [(o9, .inr (3, [.int (zI ((S : Int))), .int (zI ((w : Int))), .ref c8, .int (zI (((wo_cls S r).length : Int))), .ref k9])), (c8, .inl (dA 0, 45, .inl (wo_cf S r))), (k9, .inl (dA 1, (4 ^ S), .inl (kf)))]) (wr := []) C (hW (sp_bh S w h c9) (dep + 1) kf (by have := sp_bh_lv (w := w) hS.2 hc hn; omega) (Nat.lt_of_le_of_lt (sp_bh_le S w h c9) hh) (by omega) hk) (cwV 2 C.1.2.2.2.2 (hw_V tw_m_RX5_53 tw_i_X5_worthAt tw_s_X5_worthAt tw_n_RX5 tw_k_X5_worthAt) rfl rfl rfl (by decide +kernel) ⟨by show _ + 1 ≤ _; simp only [hv_rm]; omega, by simp only [hv_rm]; omega⟩) (hv_pm [0, 0, 0] rfl) rfl 0 3 rfl rfl rfl (Nat.le_of_ble_eq_true rfl) dX5_gainAt_37 ⟨Nat.le_of_ble_eq_true rfl, Nat.le_of_ble_eq_true rfl⟩ (fun kf1 hk1 => ?_)
    refine hv_eqst (st' := [.int (zI (wo S w r (sp_bh S w h c9)))]) rfl ?_
    refine hv_weq (ws' := [(o9, .inr (3, [.int (zI ((S : Int))), .int (zI ((w : Int))), .ref c8, .int (zI (((wo_cls S r).length : Int))), .ref k9])), (c8, .inl (dA 0, 45, .inl (wo_cf S r))), (k9, .inl (dA 1, (4 ^ S), .inl (kf1)))]) (rfl) ?_
    refine hv_ineg C dX5_gainAt_40 (zI_neg _) ?_
    refine hv_iload_n C dX5_gainAt_41 3 rfl ?_
    refine hv_iload C dX5_gainAt_42 0 rfl ?_
    refine hv_callS (As := [.int (zI ((h : Int))), .int (zI ((sp_bh S w h c9 : Int)))]) (rest := [.int (zI (-(wo S w r (sp_bh S w h c9))))]) (wc := []) (wr := [(o9, .inr (3, [.int (zI ((S : Int))), .int (zI ((w : Int))), .ref c8, .int (zI (((wo_cls S r).length : Int))), .ref k9])), (c8, .inl (dA 0, 45, .inl (wo_cf S r))), (k9, .inl (dA 1, (4 ^ S), .inl (kf1)))]) C (k_X3_bared l D dA h (sp_bh S w h c9) (by omega) (by omega) hx (Nat.lt_of_le_of_lt (sp_bh_le S w h c9) hx)) (va_cwS 2 C.1.2.2.2.2 (hw_S tw_m_RX5_65 tw_t_X3_bared tw_n_RX3 tw_k_X3_bared) rfl rfl rfl (by decide +kernel) ⟨by show _ + 1 ≤ _; simp only [hv_rm]; omega, by simp only [hv_rm]; omega⟩) (hv_pm [] rfl) rfl rfl (Nat.le_of_ble_eq_true rfl) dX5_gainAt_44 ⟨Nat.le_of_ble_eq_true rfl, Nat.le_of_ble_eq_true rfl⟩ (fun _ _ => ?_)
    refine hv_eqst (st' := [.int (zI ((sp_lc h : Int) - (sp_lc (sp_bh S w h c9) : Int))), .int (zI (-(wo S w r (sp_bh S w h c9))))]) rfl ?_
    refine hv_weq (ws' := [(o9, .inr (3, [.int (zI ((S : Int))), .int (zI ((w : Int))), .ref c8, .int (zI (((wo_cls S r).length : Int))), .ref k9])), (c8, .inl (dA 0, 45, .inl (wo_cf S r))), (k9, .inl (dA 1, (4 ^ S), .inl (kf1)))]) (rfl) ?_
    refine hv_isub C dX5_gainAt_47 (zI_sub _ _) ?_
    exact hv_iret C M dX5_gainAt_48 rfl rfl kf1 hk1 (hv_rv (by unfold wo_gain; rw [if_neg hn])) [] (List.Perm.of_eq (by first | rfl | exact (List.append_nil _).symm)) (Nat.le_refl _) (Nat.le_refl _)
  · have he : sp_cc h c9 = h := by omega
    refine hv_bipush C dX5_gainAt_13 (v := zI (-100)) (by decide +kernel) ?_
    exact hv_iret C M dX5_gainAt_15 rfl rfl kf hk (hv_rv (by unfold wo_gain; rw [if_pos he])) [] (List.Perm.of_eq (by first | rfl | exact (List.append_nil _).symm)) (Nat.le_refl _) (Nat.le_refl _)

set_option maxHeartbeats 4000000 in
set_option maxRecDepth 100000 in
theorem k_X5_worthAt_s (l : Launch) (D : va_G) (dA : Nat → ClassId) (o9 c8 k9 S w r : Nat) (hS : 2 ≤ S ∧ S ≤ 6) (hw : w < 3) (hr : 1 ≤ r ∧ r ≤ 3) (n : Nat) (hG : ∀ (b c9 dep : Nat) (kf : Nat → Int32), 0 < b → sp_lv b ≤ n → b < 4 ^ S → sp_ok S c9 → dep + n ≤ 18 → wo_kn S w r kf → hv_Ct l yX5_gainAt (hw_W yX5_gainAt cX5_gainAt 6 (some .int)) (2 * n + 2) D dA [.ref o9, .int (zI (b : Int)), .int (zI (c9 : Int)), .int (zI (dep : Int))] (O3 dA o9 c8 k9 S w r kf) 0 0 (S := Nat → Int32) (fun _ => some (.int (zI (wo_gain S w (wo S w r) b c9)))) (wo_kn S w r) (fun kf2 => O3 dA o9 c8 k9 S w r kf2)) (h dep : Nat) (hlv : sp_lv h ≤ n) (hh : h < 4 ^ S) (hd : dep + n ≤ 18) (kf : Nat → Int32) (hk : wo_kn S w r kf) : hv_Ct l yX5_worthAt (hw_W yX5_worthAt cX5_worthAt 5 (some .int)) (2 * n + 3) D dA [.ref o9, .int (zI ((h : Int))), .int (zI ((dep : Int)))] ([(o9, .inr (3, [.int (zI ((S : Int))), .int (zI ((w : Int))), .ref c8, .int (zI (((wo_cls S r).length : Int))), .ref k9])), (c8, .inl (dA 0, 45, .inl (wo_cf S r))), (k9, .inl (dA 1, (4 ^ S), .inl (kf)))]) 0 0 (S := Nat → Int32) (fun _ => some (.int (zI (wo S w r h)))) (wo_kn S w r) (fun kf2 => O3 dA o9 c8 k9 S w r kf2) := by
  have hlen := wo_len S (by omega) r (by omega)
  have hx : h < 4096 := sp_hlt hS.2 hh
  have h4S := sp_4S hS.2
  refine hv_of (cc := cX5_worthAt) (maxL := 5) (ret := (some .int)) (own := RX5) rfl (by decide) rfl (Nat.le_of_ble_eq_true rfl) ?_
  intro p e s m args below meth c C M
  refine hv_lveq (lv' := [(0, .ref o9), (1, .int (zI ((h : Int)))), (2, .int (zI ((dep : Int))))]) rfl ?_
  refine hv_iload_n C dX5_worthAt_0 1 rfl ?_
  refine hv_if_le C dX5_worthAt_1 (tgt := 19) (by decide) (zI_le0 (by omega)) (fun hc1 => ?_) (fun hc1 => ?_)
  · obtain rfl : h = 0 := by omega
    refine hv_iconst C dX5_worthAt_19 (v := zI (0)) rfl ?_
    exact hv_iret C M dX5_worthAt_20 rfl rfl kf hk (hv_rv (wo_0 S w r)) [] (List.Perm.of_eq (by first | rfl | exact (List.append_nil _).symm)) (Nat.le_refl _) (Nat.le_refl _)
  · refine hv_iload_n C dX5_worthAt_4 1 rfl ?_
    refine hv_aload_n C dX5_worthAt_5 0 rfl ?_
    refine hv_get C dX5_worthAt_6 (fun w h => hw_c (tw_u_5 w h)) 0 (ci := 3) rfl rfl 4 (by decide) (hw_c tw_f_RX5_37) rfl ?_
    refine hv_alen C 1 dX5_worthAt_9 2 rfl rfl (v := zI (((4 ^ S : Nat) : Int))) ((zI_nat _).symm) ?_
    refine hv_icmp_ge C dX5_worthAt_10 (tgt := 19) (by decide) (zI_le (by omega)) (fun hc10 => ?_) (fun hc10 => ?_)
    · exfalso; omega
    · refine hv_iload_n C dX5_worthAt_13 2 rfl ?_
      refine hv_bipush C dX5_worthAt_14 (v := zI (18)) (by decide +kernel) ?_
      refine hv_icmp_le C dX5_worthAt_16 (tgt := 21) (by decide) (zI_le (by omega)) (fun hc16 => ?_) (fun hc16 => ?_)
      · refine hv_aload_n C dX5_worthAt_21 0 rfl ?_
        refine hv_get C dX5_worthAt_22 (fun w h => hw_c (tw_u_5 w h)) 0 (ci := 3) rfl rfl 4 (by decide) (hw_c tw_f_RX5_37) rfl ?_
        refine hv_iload_n C dX5_worthAt_25 1 rfl ?_
        refine hv_bald C dX5_worthAt_26 2 rfl (h) (zI_ix (by omega)) (by omega) (by omega) (v := (kf h)) rfl ?_
        refine hv_if_ne C dX5_worthAt_27 (tgt := 90) (by decide) (P := ¬ kf h = 0) Iff.rfl (fun hc27 => ?_) (fun hc27 => ?_)
        · refine hv_aload_n C dX5_worthAt_90 0 rfl ?_
          refine hv_get C dX5_worthAt_91 (fun w h => hw_c (tw_u_5 w h)) 0 (ci := 3) rfl rfl 4 (by decide) (hw_c tw_f_RX5_37) rfl ?_
          refine hv_iload_n C dX5_worthAt_94 1 rfl ?_
          refine hv_bald C dX5_worthAt_95 2 rfl (h) (zI_ix (by omega)) (by omega) (by omega) (v := (zI (wo S w r h + 7))) (by exact (hk h hh).resolve_left hc27) ?_
          refine hv_bipush C dX5_worthAt_96 (v := zI (7)) (by decide +kernel) ?_
          refine hv_isub C dX5_worthAt_98 (z := zI (wo S w r h)) ((zI_sub _ _).trans (zI_c (by omega))) ?_
          exact hv_iret C M dX5_worthAt_99 rfl rfl kf hk rfl [] (List.Perm.of_eq (by first | rfl | exact (List.append_nil _).symm)) (Nat.le_refl _) (Nat.le_refl _)
        · refine hv_bipush C dX5_worthAt_30 (v := zI (-100)) (by decide +kernel) ?_
          refine hv_istore_n C dX5_worthAt_32 (lw := [(3, .int (zI (-100))), (0, .ref o9), (1, .int (zI ((h : Int)))), (2, .int (zI ((dep : Int))))]) (by decide) rfl ?_
          refine hv_iconst C dX5_worthAt_33 (v := zI (0)) rfl ?_
          refine hv_istore C dX5_worthAt_34 (lw := [(4, .int (zI (0))), (3, .int (zI (-100))), (0, .ref o9), (1, .int (zI ((h : Int)))), (2, .int (zI ((dep : Int))))]) (by decide) rfl ?_
          refine hv_loop (σ := Nat × Int × (Nat → Int32)) (fun n9 x => x.1 + n9 = (wo_cls S r).length ∧ x.2.1 = wo_fold S w (wo S w r) h ((wo_cls S r).take x.1) (-100) ∧ wo_kn S w r x.2.2) (fun x => [(o9, .inr (3, [.int (zI ((S : Int))), .int (zI ((w : Int))), .ref c8, .int (zI (((wo_cls S r).length : Int))), .ref k9])), (c8, .inl (dA 0, 45, .inl (wo_cf S r))), (k9, .inl (dA 1, (4 ^ S), .inl (x.2.2)))]) (fun x => [(4, .int (zI ((x.1 : Int)))), (3, .int (zI (x.2.1))), (0, .ref o9), (1, .int (zI ((h : Int)))), (2, .int (zI ((dep : Int))))]) (fun x => []) (fun _ => 0) (fun _ => 0) ((wo_cls S r).length) ((0, -100, kf)) (⟨Nat.zero_add _, rfl, hk⟩) (⟨rfl, rfl, rfl, rfl, rfl⟩) (fun n9 x hI ih => ?_)
          obtain ⟨i, g9, kf1⟩ := x
          dsimp only at hI ⊢
          obtain ⟨hi1, hg1, hk1⟩ := hI
          refine hv_iload C dX5_worthAt_36 0 rfl ?_
          refine hv_aload_n C dX5_worthAt_38 2 rfl ?_
          refine hv_get C dX5_worthAt_39 (fun w h => hw_c (tw_u_5 w h)) 0 (ci := 3) rfl rfl 3 (by decide) (hw_c tw_f_RX5_47) rfl ?_
          refine hv_icmp_ge C dX5_worthAt_42 (tgt := 79) (by decide) (zI_le (by omega)) (fun hc42 => ?_) (fun hc42 => ?_)
          · have hi0 : i = (wo_cls S r).length := by omega
            have hg2 : g9 = wo S w r h := by rw [hg1, hi0, List.take_length, ← wo_eq (by omega)]
            have hrw := wo_6 (w := w) hS hr hh
            refine hv_aload_n C dX5_worthAt_79 2 rfl ?_
            refine hv_get C dX5_worthAt_80 (fun w h => hw_c (tw_u_5 w h)) 0 (ci := 3) rfl rfl 4 (by decide) (hw_c tw_f_RX5_37) rfl ?_
            refine hv_iload_n C dX5_worthAt_83 3 rfl ?_
            refine hv_iload_n C dX5_worthAt_84 1 rfl ?_
            refine hv_bipush C dX5_worthAt_85 (v := zI (7)) (by decide +kernel) ?_
            refine hv_iadd C dX5_worthAt_87 (z := zI (wo S w r h + 7)) ((zI_add _ _).trans (zI_c (by omega))) ?_
            refine hv_i2b C dX5_worthAt_88 (v := (zI (wo S w r h + 7))) (by exact wo_i8 (by omega)) ?_
            refine hv_bast C dX5_worthAt_89 2 rfl (h) (zI_ix (by omega)) (by omega) (by omega) (y := zI (wo S w r h + 7)) (by exact wo_i8 (by omega)) ?_
            refine hv_weq (ws' := [(o9, .inr (3, [.int (zI ((S : Int))), .int (zI ((w : Int))), .ref c8, .int (zI (((wo_cls S r).length : Int))), .ref k9])), (c8, .inl (dA 0, 45, .inl (wo_cf S r))), (k9, .inl (dA 1, (4 ^ S), .inl (upd kf1 h (zI (wo S w r h + 7)))))]) (rfl) ?_
            refine hv_aload_n C dX5_worthAt_90 2 rfl ?_
            refine hv_get C dX5_worthAt_91 (fun w h => hw_c (tw_u_5 w h)) 0 (ci := 3) rfl rfl 4 (by decide) (hw_c tw_f_RX5_37) rfl ?_
            refine hv_iload_n C dX5_worthAt_94 3 rfl ?_
            refine hv_bald C dX5_worthAt_95 2 rfl (h) (zI_ix (by omega)) (by omega) (by omega) (v := (zI (wo S w r h + 7))) (by unfold upd; rw [if_pos rfl]) ?_
            refine hv_bipush C dX5_worthAt_96 (v := zI (7)) (by decide +kernel) ?_
            refine hv_isub C dX5_worthAt_98 (z := zI (wo S w r h)) ((zI_sub _ _).trans (zI_c (by omega))) ?_
            exact hv_iret C M dX5_worthAt_99 rfl rfl (upd kf1 h (zI (wo S w r h + 7))) (wo_kn_upd h hk1) rfl [] (List.Perm.of_eq (by first | rfl | exact (List.append_nil _).symm)) (Nat.le_refl _) (Nat.le_refl _)
          · refine hv_iload C dX5_worthAt_45 0 rfl ?_
            refine hv_aload_n C dX5_worthAt_47 2 rfl ?_
            refine hv_get C dX5_worthAt_48 (fun w h => hw_c (tw_u_5 w h)) 0 (ci := 3) rfl rfl 2 (by decide) (hw_c tw_f_RX5_11) rfl ?_
            refine hv_alen C 0 dX5_worthAt_51 1 rfl rfl (v := zI (45)) (rfl) ?_
            refine hv_icmp_ge C dX5_worthAt_52 (tgt := 79) (by decide) (zI_le (by omega)) (fun hc52 => ?_) (fun hc52 => ?_)
            · exfalso; omega
            · refine hv_iload_n C dX5_worthAt_55 1 rfl ?_
              refine hv_aload_n C dX5_worthAt_56 2 rfl ?_
              refine hv_iload_n C dX5_worthAt_57 3 rfl ?_
              refine hv_aload_n C dX5_worthAt_58 2 rfl ?_
              refine hv_get C dX5_worthAt_59 (fun w h => hw_c (tw_u_5 w h)) 0 (ci := 3) rfl rfl 2 (by decide) (hw_c tw_f_RX5_11) rfl ?_
              refine hv_iload C dX5_worthAt_62 0 rfl ?_
              refine hv_iald C dX5_worthAt_64 1 rfl (i) (zI_ix (by omega)) (by omega) (by omega) (v := (zI (((wo_cls S r).getD i 0 : Int)))) rfl ?_
              refine hv_iload_n C dX5_worthAt_65 4 rfl ?_
              refine hv_callV (As := [.int (zI ((h : Int))), .int (zI (((wo_cls S r).getD i 0 : Int))), .int (zI ((dep : Int)))]) (rest := [.int (zI (g9))]) (wc := [(o9, .inr (3, [.int (zI ((S : Int))), .int (zI ((w : Int))), .ref c8, .int (zI (((wo_cls S r).length : Int))), .ref k9])), (c8, .inl (dA 0, 45, .inl (wo_cf S r))), (k9, .inl (dA 1, (4 ^ S), .inl (kf1)))]) (wr := []) C (hG h ((wo_cls S r).getD i 0) dep kf1 (by omega) hlv hh (wo_cls_ok S (by omega) r (by omega) _ (wo_mem (by omega))) hd hk1) (cwV 3 C.1.2.2.2.2 (hw_V tw_m_RX5_56 tw_i_X5_gainAt tw_s_X5_gainAt tw_n_RX5 tw_k_X5_gainAt) rfl rfl rfl (by decide +kernel) ⟨by show _ + 1 ≤ _; simp only [hv_rm]; omega, by simp only [hv_rm]; omega⟩) (hv_pm [0, 0, 0] rfl) rfl 0 3 rfl rfl rfl (Nat.le_of_ble_eq_true rfl) dX5_worthAt_66 ⟨Nat.le_of_ble_eq_true rfl, Nat.le_of_ble_eq_true rfl⟩ (fun kf2 hk2 => ?_)
              refine hv_eqst (st' := [.int (zI (wo_gain S w (wo S w r) h ((wo_cls S r).getD i 0))), .int (zI (g9))]) rfl ?_
              refine hv_weq (ws' := [(o9, .inr (3, [.int (zI ((S : Int))), .int (zI ((w : Int))), .ref c8, .int (zI (((wo_cls S r).length : Int))), .ref k9])), (c8, .inl (dA 0, 45, .inl (wo_cf S r))), (k9, .inl (dA 1, (4 ^ S), .inl (kf2)))]) (rfl) ?_
              refine hv_mmax C dX5_worthAt_69 (hw_c tw_m_RX5_21) (hw_c tw_t_Lib_Math_max_name) (hw_c tw_n_java_lang_Math) (hw_c tw_k_Lib_Math_max_name) (by simp only [hv_rm]; omega) (by simp only [hv_rm, List.map, List.sum_nil]; omega) (by exact Nat.zero_le _) (by exact Nat.zero_le _) (z := zI (max g9 (wo_gain S w (wo S w r) h ((wo_cls S r).getD i 0)))) (by exact zI_max (by have := wo_fran (w := w) hS hr hh ((wo_cls S r).take i); have := wo_gran (w := w) (c := (wo_cls S r).getD i 0) hS hr hh; omega)) ?_
              refine hv_istore_n C dX5_worthAt_72 (lw := [(3, .int (zI (max g9 (wo_gain S w (wo S w r) h ((wo_cls S r).getD i 0))))), (4, .int (zI ((i : Int)))), (0, .ref o9), (1, .int (zI ((h : Int)))), (2, .int (zI ((dep : Int))))]) (by decide) rfl ?_
              refine hv_iinc C dX5_worthAt_73 1 rfl (v := zI (((i + 1 : Nat) : Int))) ((zI_add _ _).trans (zI_c (by omega))) (by decide) (lw := [(4, .int (zI (((i + 1 : Nat) : Int)))), (3, .int (zI (max g9 (wo_gain S w (wo S w r) h ((wo_cls S r).getD i 0))))), (0, .ref o9), (1, .int (zI ((h : Int)))), (2, .int (zI ((dep : Int))))]) rfl ?_
              refine hv_goto C dX5_worthAt_76 (tgt := 36) (by decide) ?_
              refine hv_lsub [0, 1, 2, 3, 4] (lv' := [(4, .int (zI (((i + 1 : Nat) : Int)))), (3, .int (zI (max g9 (wo_gain S w (wo S w r) h ((wo_cls S r).getD i 0))))), (0, .ref o9), (1, .int (zI ((h : Int)))), (2, .int (zI ((dep : Int))))]) rfl ?_
              exact ih (n9 - 1) (i + 1, max g9 (wo_gain S w (wo S w r) h ((wo_cls S r).getD i 0)), kf2) (by omega) ⟨by dsimp only; omega, by dsimp only; rw [wo_step (by omega), hg1], hk2⟩
      · exfalso; omega

/-- the worth of a hedge, at any depth that its leaves leave room for -/
theorem k_X5_worthAt (l : Launch) (D : va_G) (dA : Nat → ClassId) (o9 c8 k9 S w r : Nat) (hS : 2 ≤ S ∧ S ≤ 6) (hw : w < 3) (hr : 1 ≤ r ∧ r ≤ 3) : ∀ (n : Nat) (b dep : Nat) (kf : Nat → Int32), sp_lv b ≤ n → b < 4 ^ S → dep + n ≤ 18 → wo_kn S w r kf → hv_Ct l yX5_worthAt (hw_W yX5_worthAt cX5_worthAt 5 (some .int)) (2 * n + 3) D dA [.ref o9, .int (zI (b : Int)), .int (zI (dep : Int))] (O3 dA o9 c8 k9 S w r kf) 0 0 (S := Nat → Int32) (fun _ => some (.int (zI (wo S w r b)))) (wo_kn S w r) (fun kf2 => O3 dA o9 c8 k9 S w r kf2) := by
  intro n
  induction n with
  | zero => exact fun b dep kf h1 h2 h3 h4 => k_X5_worthAt_s l D dA o9 c8 k9 S w r hS hw hr 0 (fun b c9 dep kf g1 g2 g3 g4 => absurd (sp_lv0 b (sp_hlt hS.2 g3) g1) (by omega)) b dep h1 h2 h3 kf h4
  | succ n ih => exact fun b dep kf h1 h2 h3 h4 => k_X5_worthAt_s l D dA o9 c8 k9 S w r hS hw hr (n + 1) (fun b c9 dep kf g1 g2 g3 g4 g5 g6 => k_X5_gainAt l D dA o9 c8 k9 S w r hS hw hr n ih b c9 dep g2 g3 g4 g5 kf g6) b dep h1 h2 h3 kf h4
theorem k_X5_worth0 (l : Launch) (D : va_G) (dA : Nat → ClassId) (o9 c8 k9 S w r : Nat) (hS : 2 ≤ S ∧ S ≤ 6) (hw : w < 3) (hr : 1 ≤ r ∧ r ≤ 3) (b : Nat) (kf : Nat → Int32) (hb : b < 4 ^ S) (hk : wo_kn S w r kf) : hv_Ct l yX5_worthAt (hw_W yX5_worthAt cX5_worthAt 5 (some .int)) 39 D dA [.ref o9, .int (zI (b : Int)), .int (zI 0)] (O3 dA o9 c8 k9 S w r kf) 0 0 (S := Nat → Int32) (fun _ => some (.int (zI (wo S w r b)))) (wo_kn S w r) (fun kf2 => O3 dA o9 c8 k9 S w r kf2) :=
  k_X5_worthAt l D dA o9 c8 k9 S w r hS hw hr 18 b 0 kf (sp_lv18 b) hb (by decide) hk
theorem k_X5_gain0 (l : Launch) (D : va_G) (dA : Nat → ClassId) (o9 c8 k9 S w r : Nat) (hS : 2 ≤ S ∧ S ≤ 6) (hw : w < 3) (hr : 1 ≤ r ∧ r ≤ 3) (b c9 : Nat) (kf : Nat → Int32) (hb : b < 4 ^ S) (hc : sp_ok S c9) (hk : wo_kn S w r kf) : hv_Ct l yX5_gainAt (hw_W yX5_gainAt cX5_gainAt 6 (some .int)) 38 D dA [.ref o9, .int (zI (b : Int)), .int (zI (c9 : Int)), .int (zI 0)] (O3 dA o9 c8 k9 S w r kf) 0 0 (S := Nat → Int32) (fun _ => some (.int (zI (wo_gain S w (wo S w r) b c9)))) (wo_kn S w r) (fun kf2 => O3 dA o9 c8 k9 S w r kf2) :=
  k_X5_gainAt l D dA o9 c8 k9 S w r hS hw hr 17 (k_X5_worthAt l D dA o9 c8 k9 S w r hS hw hr 17) b c9 0 (sp_lv18 b) hb hc (by decide) kf hk
