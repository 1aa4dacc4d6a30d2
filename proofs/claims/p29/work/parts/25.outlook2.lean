set_option maxHeartbeats 4000000 in
set_option maxRecDepth 100000 in
theorem k_X5_possibleClips (l : Launch) (D : va_G) (dA : Nat → ClassId) (o9 c8 k9 S w r : Nat) (hS : 2 ≤ S ∧ S ≤ 6) (hw : w < 3) (hr : 1 ≤ r ∧ r ≤ 3) (h : Nat) (hh : h < 4 ^ S) (kf : Nat → Int32) : hv_Ct l yX5_possibleClips (hw_W yX5_possibleClips cX5_possibleClips 4 (some .int)) 2 D dA [.ref o9, .int (zI ((h : Int)))] ([(o9, .inr (3, [.int (zI ((S : Int))), .int (zI ((w : Int))), .ref c8, .int (zI (((wo_cls S r).length : Int))), .ref k9])), (c8, .inl (dA 0, 45, .inl (wo_cf S r))), (k9, .inl (dA 1, (4 ^ S), .inl (kf)))]) 0 0 (S := Unit) (fun _ => some (.int (zI (wo_cnt (wo_can h) (wo_cls S r) : Int)))) (fun _ => True) (fun _ => [(o9, .inr (3, [.int (zI ((S : Int))), .int (zI ((w : Int))), .ref c8, .int (zI (((wo_cls S r).length : Int))), .ref k9])), (c8, .inl (dA 0, 45, .inl (wo_cf S r))), (k9, .inl (dA 1, (4 ^ S), .inl (kf)))]) := by
  have hlen := wo_len S (by omega) r (by omega)
  have hx : h < 4096 := sp_hlt hS.2 hh
  have h4S := sp_4S hS.2
  refine hv_of (cc := cX5_possibleClips) (maxL := 4) (ret := (some .int)) (own := RX5) rfl (by decide) rfl (Nat.le_of_ble_eq_true rfl) ?_
  intro p e s m args below meth c C M
  refine hv_lveq (lv' := [(0, .ref o9), (1, .int (zI ((h : Int))))]) rfl ?_
  refine hv_iconst C dX5_possibleClips_0 (v := zI (0)) rfl ?_
  refine hv_istore_n C dX5_possibleClips_1 (lw := [(2, .int (zI (0))), (0, .ref o9), (1, .int (zI ((h : Int))))]) (by decide) rfl ?_
  refine hv_iconst C dX5_possibleClips_2 (v := zI (0)) rfl ?_
  refine hv_istore_n C dX5_possibleClips_3 (lw := [(3, .int (zI (0))), (2, .int (zI (0))), (0, .ref o9), (1, .int (zI ((h : Int))))]) (by decide) rfl ?_
  refine hv_loop (σ := Nat × Nat) (fun n x => x.1 + n = (wo_cls S r).length ∧ x.2 = wo_cnt (wo_can h) ((wo_cls S r).take x.1)) (fun x => [(o9, .inr (3, [.int (zI ((S : Int))), .int (zI ((w : Int))), .ref c8, .int (zI (((wo_cls S r).length : Int))), .ref k9])), (c8, .inl (dA 0, 45, .inl (wo_cf S r))), (k9, .inl (dA 1, (4 ^ S), .inl (kf)))]) (fun x => [(3, .int (zI ((x.1 : Int)))), (2, .int (zI ((x.2 : Int)))), (0, .ref o9), (1, .int (zI ((h : Int))))]) (fun x => []) (fun _ => 0) (fun _ => 0) ((wo_cls S r).length) ((0, 0)) (⟨Nat.zero_add _, rfl⟩) (⟨rfl, rfl, rfl, rfl, rfl⟩) (fun n x hI ih => ?_)
  obtain ⟨i, c7⟩ := x
  dsimp only at hI ⊢
  obtain ⟨hi1, hg1⟩ := hI
  have hcl := wo_cnt_le (p := wo_can h) (l := (wo_cls S r)) (i := i)
  refine hv_iload_n C dX5_possibleClips_4 0 rfl ?_
  refine hv_aload_n C dX5_possibleClips_5 2 rfl ?_
  refine hv_get C dX5_possibleClips_6 (fun w h => hw_c (tw_u_5 w h)) 0 (ci := 3) rfl rfl 3 (by decide) (hw_c tw_f_RX5_47) rfl ?_
  refine hv_icmp_ge C dX5_possibleClips_9 (tgt := 44) (by decide) (zI_le (by omega)) (fun hc9 => ?_) (fun hc9 => ?_)
  · have hi0 : i = (wo_cls S r).length := by omega
    refine hv_iload_n C dX5_possibleClips_44 1 rfl ?_
    exact hv_iret C M dX5_possibleClips_45 rfl rfl () trivial (hv_rv (by rw [hg1, hi0, List.take_length])) [] (List.Perm.of_eq (by first | rfl | exact (List.append_nil _).symm)) (Nat.le_refl _) (Nat.le_refl _)
  · refine hv_iload_n C dX5_possibleClips_12 0 rfl ?_
    refine hv_aload_n C dX5_possibleClips_13 2 rfl ?_
    refine hv_get C dX5_possibleClips_14 (fun w h => hw_c (tw_u_5 w h)) 0 (ci := 3) rfl rfl 2 (by decide) (hw_c tw_f_RX5_11) rfl ?_
    refine hv_alen C 0 dX5_possibleClips_17 1 rfl rfl (v := zI (45)) (rfl) ?_
    refine hv_icmp_ge C dX5_possibleClips_18 (tgt := 44) (by decide) (zI_le (by omega)) (fun hc18 => ?_) (fun hc18 => ?_)
    · exfalso; omega
    · refine hv_iload_n C dX5_possibleClips_21 3 rfl ?_
      refine hv_aload_n C dX5_possibleClips_22 2 rfl ?_
      refine hv_get C dX5_possibleClips_23 (fun w h => hw_c (tw_u_5 w h)) 0 (ci := 3) rfl rfl 2 (by decide) (hw_c tw_f_RX5_11) rfl ?_
      refine hv_iload_n C dX5_possibleClips_26 0 rfl ?_
      refine hv_iald C dX5_possibleClips_27 1 rfl (i) (zI_ix (by omega)) (by omega) (by omega) (v := (zI (((wo_cls S r).getD i 0 : Int)))) rfl ?_
      refine hv_callS (As := [.int (zI ((h : Int))), .int (zI (((wo_cls S r).getD i 0 : Int)))]) (rest := []) (wc := []) (wr := [(o9, .inr (3, [.int (zI ((S : Int))), .int (zI ((w : Int))), .ref c8, .int (zI (((wo_cls S r).length : Int))), .ref k9])), (c8, .inl (dA 0, 45, .inl (wo_cf S r))), (k9, .inl (dA 1, (4 ^ S), .inl (kf)))]) C (k_X3_clipped l D dA (h) ((wo_cls S r).getD i 0) (by have hok := (wo_cls_ok S (by omega) r (by omega) _ (wo_mem (l := wo_cls S r) (i := i) (by omega))); have := hok.1; have := hok.2.1; have := hok.2.2; omega) (by have hok := (wo_cls_ok S (by omega) r (by omega) _ (wo_mem (l := wo_cls S r) (i := i) (by omega))); have := hok.1; have := hok.2.1; have := hok.2.2; omega) (by have hok := (wo_cls_ok S (by omega) r (by omega) _ (wo_mem (l := wo_cls S r) (i := i) (by omega))); have := hok.1; have := hok.2.1; have := hok.2.2; omega) (by have hok := (wo_cls_ok S (by omega) r (by omega) _ (wo_mem (l := wo_cls S r) (i := i) (by omega))); have := hok.1; have := hok.2.1; have := hok.2.2; omega)) (va_cwS 2 C.1.2.2.2.2 (hw_S tw_m_RX5_50 tw_t_X3_clipped tw_n_RX3 tw_k_X3_clipped) rfl rfl rfl (by decide +kernel) ⟨Nat.le_of_ble_eq_true rfl, Nat.le_of_ble_eq_true rfl⟩) (hv_pm [] rfl) rfl rfl (Nat.le_of_ble_eq_true rfl) dX5_possibleClips_28 ⟨Nat.le_of_ble_eq_true rfl, Nat.le_of_ble_eq_true rfl⟩ (fun _ _ => ?_)
      refine hv_eqst (st' := [.int (zI ((sp_cc (h) ((wo_cls S r).getD i 0) : Int)))]) rfl ?_
      refine hv_weq (ws' := [(o9, .inr (3, [.int (zI ((S : Int))), .int (zI ((w : Int))), .ref c8, .int (zI (((wo_cls S r).length : Int))), .ref k9])), (c8, .inl (dA 0, 45, .inl (wo_cf S r))), (k9, .inl (dA 1, (4 ^ S), .inl (kf)))]) (rfl) ?_
      refine hv_iload_n C dX5_possibleClips_31 3 rfl ?_
      have hle := sp_cc_le h ((wo_cls S r).getD i 0)
      refine hv_icmp_eq C dX5_possibleClips_32 (tgt := 38) (by decide) (P := sp_cc h ((wo_cls S r).getD i 0) = h) ((zI_eq (by omega)).trans (by omega)) (fun hc32 => ?_) (fun hc32 => ?_)
      · refine hv_iinc C dX5_possibleClips_38 0 rfl (v := zI (((i + 1 : Nat) : Int))) ((zI_add _ _).trans (zI_c (by omega))) (by decide) (lw := [(3, .int (zI (((i + 1 : Nat) : Int)))), (2, .int (zI ((c7 : Int)))), (0, .ref o9), (1, .int (zI ((h : Int))))]) rfl ?_
        refine hv_goto C dX5_possibleClips_41 (tgt := 4) (by decide) ?_
        refine hv_lsub [0, 1, 2, 3] (lv' := [(3, .int (zI (((i + 1 : Nat) : Int)))), (2, .int (zI ((c7 : Int)))), (0, .ref o9), (1, .int (zI ((h : Int))))]) rfl ?_
        have hp : ¬ wo_can h ((wo_cls S r).getD i 0) = true := by unfold wo_can; rw [decide_eq_true hc32]; exact Bool.false_ne_true
        exact ih (n - 1) (i + 1, c7) (by omega) ⟨by dsimp only; omega, by dsimp only; rw [wo_cnt_step (by omega), ← hg1]; first | rw [if_pos hp] | rw [if_neg hp, Nat.add_zero]⟩
      · refine hv_iinc C dX5_possibleClips_35 1 rfl (v := zI (((c7 + 1 : Nat) : Int))) ((zI_add _ _).trans (zI_c (by omega))) (by decide) (lw := [(2, .int (zI (((c7 + 1 : Nat) : Int)))), (3, .int (zI ((i : Int)))), (0, .ref o9), (1, .int (zI ((h : Int))))]) rfl ?_
        refine hv_iinc C dX5_possibleClips_38 1 rfl (v := zI (((i + 1 : Nat) : Int))) ((zI_add _ _).trans (zI_c (by omega))) (by decide) (lw := [(3, .int (zI (((i + 1 : Nat) : Int)))), (2, .int (zI (((c7 + 1 : Nat) : Int)))), (0, .ref o9), (1, .int (zI ((h : Int))))]) rfl ?_
        refine hv_goto C dX5_possibleClips_41 (tgt := 4) (by decide) ?_
        refine hv_lsub [0, 1, 2, 3] (lv' := [(3, .int (zI (((i + 1 : Nat) : Int)))), (2, .int (zI (((c7 + 1 : Nat) : Int)))), (0, .ref o9), (1, .int (zI ((h : Int))))]) rfl ?_
        have hp : wo_can h ((wo_cls S r).getD i 0) = true := by unfold wo_can; rw [decide_eq_false hc32]; rfl
        exact ih (n - 1) (i + 1, c7 + 1) (by omega) ⟨by dsimp only; omega, by dsimp only; rw [wo_cnt_step (by omega), ← hg1]; first | rw [if_pos hp] | rw [if_neg hp, Nat.add_zero]⟩

set_option maxHeartbeats 4000000 in
set_option maxRecDepth 100000 in
theorem k_X5_bestClipOf (l : Launch) (D : va_G) (dA : Nat → ClassId) (o9 c8 k9 S w r : Nat) (hS : 2 ≤ S ∧ S ≤ 6) (hw : w < 3) (hr : 1 ≤ r ∧ r ≤ 3) (h : Nat) (hh : h < 4 ^ S) (kf : Nat → Int32) (hk : wo_kn S w r kf) : hv_Ct l yX5_bestClipOf (hw_W yX5_bestClipOf cX5_bestClipOf 4 (some .int)) 40 D dA [.ref o9, .int (zI ((h : Int)))] ([(o9, .inr (3, [.int (zI ((S : Int))), .int (zI ((w : Int))), .ref c8, .int (zI (((wo_cls S r).length : Int))), .ref k9])), (c8, .inl (dA 0, 45, .inl (wo_cf S r))), (k9, .inl (dA 1, (4 ^ S), .inl (kf)))]) 0 0 (S := Nat → Int32) (fun _ => some (.int (zI (wo_best S w r h)))) (wo_kn S w r) (fun kf2 => O3 dA o9 c8 k9 S w r kf2) := by
  have hlen := wo_len S (by omega) r (by omega)
  have hx : h < 4096 := sp_hlt hS.2 hh
  have h4S := sp_4S hS.2
  refine hv_of (cc := cX5_bestClipOf) (maxL := 4) (ret := (some .int)) (own := RX5) rfl (by decide) rfl (Nat.le_of_ble_eq_true rfl) ?_
  intro p e s m args below meth c C M
  refine hv_lveq (lv' := [(0, .ref o9), (1, .int (zI ((h : Int))))]) rfl ?_
  refine hv_aload_n C dX5_bestClipOf_0 0 rfl ?_
  refine hv_iload_n C dX5_bestClipOf_1 1 rfl ?_
  refine hv_iconst C dX5_bestClipOf_2 (v := zI (0)) rfl ?_
  refine hv_callV (As := [.int (zI ((h : Int))), .int (zI (0))]) (rest := []) (wc := [(o9, .inr (3, [.int (zI ((S : Int))), .int (zI ((w : Int))), .ref c8, .int (zI (((wo_cls S r).length : Int))), .ref k9])), (c8, .inl (dA 0, 45, .inl (wo_cf S r))), (k9, .inl (dA 1, (4 ^ S), .inl (kf)))]) (wr := []) C (k_X5_worth0 l D dA o9 c8 k9 S w r hS hw hr h kf hh hk) (cwV 2 C.1.2.2.2.2 (hw_V tw_m_RX5_53 tw_i_X5_worthAt tw_s_X5_worthAt tw_n_RX5 tw_k_X5_worthAt) rfl rfl rfl (by decide +kernel) ⟨Nat.le_of_ble_eq_true rfl, Nat.le_of_ble_eq_true rfl⟩) (hv_pm [0, 0, 0] rfl) rfl 0 3 rfl rfl rfl (Nat.le_of_ble_eq_true rfl) dX5_bestClipOf_3 ⟨Nat.le_of_ble_eq_true rfl, Nat.le_of_ble_eq_true rfl⟩ (fun kf5 hk5 => ?_)
  refine hv_eqst (st' := [.int (zI (wo S w r h))]) rfl ?_
  refine hv_weq (ws' := [(o9, .inr (3, [.int (zI ((S : Int))), .int (zI ((w : Int))), .ref c8, .int (zI (((wo_cls S r).length : Int))), .ref k9])), (c8, .inl (dA 0, 45, .inl (wo_cf S r))), (k9, .inl (dA 1, (4 ^ S), .inl (kf5)))]) (rfl) ?_
  refine hv_istore_n C dX5_bestClipOf_6 (lw := [(2, .int (zI (wo S w r h))), (0, .ref o9), (1, .int (zI ((h : Int))))]) (by decide) rfl ?_
  refine hv_iconst C dX5_bestClipOf_7 (v := zI (0)) rfl ?_
  refine hv_istore_n C dX5_bestClipOf_8 (lw := [(3, .int (zI (0))), (2, .int (zI (wo S w r h))), (0, .ref o9), (1, .int (zI ((h : Int))))]) (by decide) rfl ?_
  refine hv_loop (σ := Nat × (Nat → Int32)) (fun n x => x.1 + n = (wo_cls S r).length ∧ (∀ j, j < x.1 → wo_isb S w r h ((wo_cls S r).getD j 0) = false) ∧ wo_kn S w r x.2) (fun x => [(o9, .inr (3, [.int (zI ((S : Int))), .int (zI ((w : Int))), .ref c8, .int (zI (((wo_cls S r).length : Int))), .ref k9])), (c8, .inl (dA 0, 45, .inl (wo_cf S r))), (k9, .inl (dA 1, (4 ^ S), .inl (x.2)))]) (fun x => [(3, .int (zI ((x.1 : Int)))), (2, .int (zI (wo S w r h))), (0, .ref o9), (1, .int (zI ((h : Int))))]) (fun x => []) (fun _ => 0) (fun _ => 0) ((wo_cls S r).length) ((0, kf5)) (⟨Nat.zero_add _, fun j hj => absurd hj (Nat.not_lt_zero _), hk5⟩) (⟨rfl, rfl, rfl, rfl, rfl⟩) (fun n x hI ih => ?_)
  obtain ⟨i, kf6⟩ := x
  dsimp only at hI ⊢
  obtain ⟨hi1, hj1, hk6⟩ := hI
  refine hv_iload_n C dX5_bestClipOf_9 0 rfl ?_
  refine hv_aload_n C dX5_bestClipOf_10 2 rfl ?_
  refine hv_get C dX5_bestClipOf_11 (fun w h => hw_c (tw_u_5 w h)) 0 (ci := 3) rfl rfl 3 (by decide) (hw_c tw_f_RX5_47) rfl ?_
  refine hv_icmp_ge C dX5_bestClipOf_14 (tgt := 55) (by decide) (zI_le (by omega)) (fun hc14 => ?_) (fun hc14 => ?_)
  · have hi0 : i = (wo_cls S r).length := by omega
    refine hv_iconst C dX5_bestClipOf_55 (v := zI (-1)) rfl ?_
    exact hv_iret C M dX5_bestClipOf_56 rfl rfl kf6 hk6 (hv_rv (wo_best_f (fun j hj => hj1 j (by omega)))) [] (List.Perm.of_eq (by first | rfl | exact (List.append_nil _).symm)) (Nat.le_refl _) (Nat.le_refl _)
  · refine hv_iload_n C dX5_bestClipOf_17 0 rfl ?_
    refine hv_aload_n C dX5_bestClipOf_18 2 rfl ?_
    refine hv_get C dX5_bestClipOf_19 (fun w h => hw_c (tw_u_5 w h)) 0 (ci := 3) rfl rfl 2 (by decide) (hw_c tw_f_RX5_11) rfl ?_
    refine hv_alen C 0 dX5_bestClipOf_22 1 rfl rfl (v := zI (45)) (rfl) ?_
    refine hv_icmp_ge C dX5_bestClipOf_23 (tgt := 55) (by decide) (zI_le (by omega)) (fun hc23 => ?_) (fun hc23 => ?_)
    · exfalso; omega
    · refine hv_aload_n C dX5_bestClipOf_26 2 rfl ?_
      refine hv_iload_n C dX5_bestClipOf_27 3 rfl ?_
      refine hv_aload_n C dX5_bestClipOf_28 2 rfl ?_
      refine hv_get C dX5_bestClipOf_29 (fun w h => hw_c (tw_u_5 w h)) 0 (ci := 3) rfl rfl 2 (by decide) (hw_c tw_f_RX5_11) rfl ?_
      refine hv_iload_n C dX5_bestClipOf_32 0 rfl ?_
      refine hv_iald C dX5_bestClipOf_33 1 rfl (i) (zI_ix (by omega)) (by omega) (by omega) (v := (zI (((wo_cls S r).getD i 0 : Int)))) rfl ?_
      refine hv_iconst C dX5_bestClipOf_34 (v := zI (0)) rfl ?_
      refine hv_callV (As := [.int (zI ((h : Int))), .int (zI (((wo_cls S r).getD i 0 : Int))), .int (zI (0))]) (rest := []) (wc := [(o9, .inr (3, [.int (zI ((S : Int))), .int (zI ((w : Int))), .ref c8, .int (zI (((wo_cls S r).length : Int))), .ref k9])), (c8, .inl (dA 0, 45, .inl (wo_cf S r))), (k9, .inl (dA 1, (4 ^ S), .inl (kf6)))]) (wr := []) C (k_X5_gain0 l D dA o9 c8 k9 S w r hS hw hr h ((wo_cls S r).getD i 0) kf6 hh (wo_cls_ok S (by omega) r (by omega) _ (wo_mem (l := wo_cls S r) (i := i) (by omega))) hk6) (cwV 3 C.1.2.2.2.2 (hw_V tw_m_RX5_56 tw_i_X5_gainAt tw_s_X5_gainAt tw_n_RX5 tw_k_X5_gainAt) rfl rfl rfl (by decide +kernel) ⟨Nat.le_of_ble_eq_true rfl, Nat.le_of_ble_eq_true rfl⟩) (hv_pm [0, 0, 0] rfl) rfl 0 3 rfl rfl rfl (Nat.le_of_ble_eq_true rfl) dX5_bestClipOf_35 ⟨Nat.le_of_ble_eq_true rfl, Nat.le_of_ble_eq_true rfl⟩ (fun kf7 hk7 => ?_)
      refine hv_eqst (st' := [.int (zI (wo_gain S w (wo S w r) h ((wo_cls S r).getD i 0)))]) rfl ?_
      refine hv_weq (ws' := [(o9, .inr (3, [.int (zI ((S : Int))), .int (zI ((w : Int))), .ref c8, .int (zI (((wo_cls S r).length : Int))), .ref k9])), (c8, .inl (dA 0, 45, .inl (wo_cf S r))), (k9, .inl (dA 1, (4 ^ S), .inl (kf7)))]) (rfl) ?_
      refine hv_iload_n C dX5_bestClipOf_38 1 rfl ?_
      refine hv_icmp_ne C dX5_bestClipOf_39 (tgt := 49) (by decide) (zI_ne (by have := wo_6 (w := w) hS hr hh; have := wo_gran (w := w) (c := (wo_cls S r).getD i 0) hS hr hh; omega)) (fun hc39 => ?_) (fun hc39 => ?_)
      · refine hv_iinc C dX5_bestClipOf_49 0 rfl (v := zI (((i + 1 : Nat) : Int))) ((zI_add _ _).trans (zI_c (by omega))) (by decide) (lw := [(3, .int (zI (((i + 1 : Nat) : Int)))), (2, .int (zI (wo S w r h))), (0, .ref o9), (1, .int (zI ((h : Int))))]) rfl ?_
        refine hv_goto C dX5_bestClipOf_52 (tgt := 9) (by decide) ?_
        refine hv_lsub [0, 1, 2, 3] (lv' := [(3, .int (zI (((i + 1 : Nat) : Int)))), (2, .int (zI (wo S w r h))), (0, .ref o9), (1, .int (zI ((h : Int))))]) rfl ?_
        exact ih (n - 1) (i + 1, kf7) (by omega) ⟨by dsimp only; omega, fun j hj => by rcases Nat.lt_or_ge j i with g | g; exact hj1 j g; obtain rfl : j = i := (by dsimp only at hj; omega); exact decide_eq_false hc39, hk7⟩
      · refine hv_aload_n C dX5_bestClipOf_42 2 rfl ?_
        refine hv_get C dX5_bestClipOf_43 (fun w h => hw_c (tw_u_5 w h)) 0 (ci := 3) rfl rfl 2 (by decide) (hw_c tw_f_RX5_11) rfl ?_
        refine hv_iload_n C dX5_bestClipOf_46 0 rfl ?_
        refine hv_iald C dX5_bestClipOf_47 1 rfl (i) (zI_ix (by omega)) (by omega) (by omega) (v := (zI (((wo_cls S r).getD i 0 : Int)))) rfl ?_
        exact hv_iret C M dX5_bestClipOf_48 rfl rfl kf7 hk7 (hv_rv (wo_best_t (by omega) hj1 (by omega))) [] (List.Perm.of_eq (by first | rfl | exact (List.append_nil _).symm)) (Nat.le_refl _) (Nat.le_refl _)

set_option maxHeartbeats 4000000 in
set_option maxRecDepth 100000 in
theorem k_X5_countBestClips (l : Launch) (D : va_G) (dA : Nat → ClassId) (o9 c8 k9 S w r : Nat) (hS : 2 ≤ S ∧ S ≤ 6) (hw : w < 3) (hr : 1 ≤ r ∧ r ≤ 3) (h : Nat) (hh : h < 4 ^ S) (kf : Nat → Int32) (hk : wo_kn S w r kf) : hv_Ct l yX5_countBestClips (hw_W yX5_countBestClips cX5_countBestClips 5 (some .int)) 40 D dA [.ref o9, .int (zI ((h : Int)))] ([(o9, .inr (3, [.int (zI ((S : Int))), .int (zI ((w : Int))), .ref c8, .int (zI (((wo_cls S r).length : Int))), .ref k9])), (c8, .inl (dA 0, 45, .inl (wo_cf S r))), (k9, .inl (dA 1, (4 ^ S), .inl (kf)))]) 0 0 (S := Nat → Int32) (fun _ => some (.int (zI ((wo_cnt (wo_isb S w r h) (wo_cls S r) : Int))))) (wo_kn S w r) (fun kf2 => O3 dA o9 c8 k9 S w r kf2) := by
  have hlen := wo_len S (by omega) r (by omega)
  have hx : h < 4096 := sp_hlt hS.2 hh
  have h4S := sp_4S hS.2
  refine hv_of (cc := cX5_countBestClips) (maxL := 5) (ret := (some .int)) (own := RX5) rfl (by decide) rfl (Nat.le_of_ble_eq_true rfl) ?_
  intro p e s m args below meth c C M
  refine hv_lveq (lv' := [(0, .ref o9), (1, .int (zI ((h : Int))))]) rfl ?_
  refine hv_aload_n C dX5_countBestClips_0 0 rfl ?_
  refine hv_iload_n C dX5_countBestClips_1 1 rfl ?_
  refine hv_iconst C dX5_countBestClips_2 (v := zI (0)) rfl ?_
  refine hv_callV (As := [.int (zI ((h : Int))), .int (zI (0))]) (rest := []) (wc := [(o9, .inr (3, [.int (zI ((S : Int))), .int (zI ((w : Int))), .ref c8, .int (zI (((wo_cls S r).length : Int))), .ref k9])), (c8, .inl (dA 0, 45, .inl (wo_cf S r))), (k9, .inl (dA 1, (4 ^ S), .inl (kf)))]) (wr := []) C (k_X5_worth0 l D dA o9 c8 k9 S w r hS hw hr h kf hh hk) (cwV 2 C.1.2.2.2.2 (hw_V tw_m_RX5_53 tw_i_X5_worthAt tw_s_X5_worthAt tw_n_RX5 tw_k_X5_worthAt) rfl rfl rfl (by decide +kernel) ⟨Nat.le_of_ble_eq_true rfl, Nat.le_of_ble_eq_true rfl⟩) (hv_pm [0, 0, 0] rfl) rfl 0 3 rfl rfl rfl (Nat.le_of_ble_eq_true rfl) dX5_countBestClips_3 ⟨Nat.le_of_ble_eq_true rfl, Nat.le_of_ble_eq_true rfl⟩ (fun kf5 hk5 => ?_)
  refine hv_eqst (st' := [.int (zI (wo S w r h))]) rfl ?_
  refine hv_weq (ws' := [(o9, .inr (3, [.int (zI ((S : Int))), .int (zI ((w : Int))), .ref c8, .int (zI (((wo_cls S r).length : Int))), .ref k9])), (c8, .inl (dA 0, 45, .inl (wo_cf S r))), (k9, .inl (dA 1, (4 ^ S), .inl (kf5)))]) (rfl) ?_
  refine hv_istore_n C dX5_countBestClips_6 (lw := [(2, .int (zI (wo S w r h))), (0, .ref o9), (1, .int (zI ((h : Int))))]) (by decide) rfl ?_
  refine hv_iconst C dX5_countBestClips_7 (v := zI (0)) rfl ?_
  refine hv_istore_n C dX5_countBestClips_8 (lw := [(3, .int (zI (0))), (2, .int (zI (wo S w r h))), (0, .ref o9), (1, .int (zI ((h : Int))))]) (by decide) rfl ?_
  refine hv_iconst C dX5_countBestClips_9 (v := zI (0)) rfl ?_
  refine hv_istore C dX5_countBestClips_10 (lw := [(4, .int (zI (0))), (3, .int (zI (0))), (2, .int (zI (wo S w r h))), (0, .ref o9), (1, .int (zI ((h : Int))))]) (by decide) rfl ?_
  refine hv_loop (σ := Nat × Nat × (Nat → Int32)) (fun n x => x.1 + n = (wo_cls S r).length ∧ x.2.1 = wo_cnt (wo_isb S w r h) ((wo_cls S r).take x.1) ∧ wo_kn S w r x.2.2) (fun x => [(o9, .inr (3, [.int (zI ((S : Int))), .int (zI ((w : Int))), .ref c8, .int (zI (((wo_cls S r).length : Int))), .ref k9])), (c8, .inl (dA 0, 45, .inl (wo_cf S r))), (k9, .inl (dA 1, (4 ^ S), .inl (x.2.2)))]) (fun x => [(4, .int (zI ((x.1 : Int)))), (3, .int (zI ((x.2.1 : Int)))), (2, .int (zI (wo S w r h))), (0, .ref o9), (1, .int (zI ((h : Int))))]) (fun x => []) (fun _ => 0) (fun _ => 0) ((wo_cls S r).length) ((0, 0, kf5)) (⟨Nat.zero_add _, rfl, hk5⟩) (⟨rfl, rfl, rfl, rfl, rfl⟩) (fun n x hI ih => ?_)
  obtain ⟨i, c7, kf6⟩ := x
  dsimp only at hI ⊢
  obtain ⟨hi1, hg1, hk6⟩ := hI
  have hcl := wo_cnt_le (p := wo_isb S w r h) (l := (wo_cls S r)) (i := i)
  refine hv_iload C dX5_countBestClips_12 0 rfl ?_
  refine hv_aload_n C dX5_countBestClips_14 3 rfl ?_
  refine hv_get C dX5_countBestClips_15 (fun w h => hw_c (tw_u_5 w h)) 0 (ci := 3) rfl rfl 3 (by decide) (hw_c tw_f_RX5_47) rfl ?_
  refine hv_icmp_ge C dX5_countBestClips_18 (tgt := 57) (by decide) (zI_le (by omega)) (fun hc18 => ?_) (fun hc18 => ?_)
  · have hi0 : i = (wo_cls S r).length := by omega
    refine hv_iload_n C dX5_countBestClips_57 1 rfl ?_
    exact hv_iret C M dX5_countBestClips_58 rfl rfl kf6 hk6 (hv_rv (by rw [hg1, hi0, List.take_length])) [] (List.Perm.of_eq (by first | rfl | exact (List.append_nil _).symm)) (Nat.le_refl _) (Nat.le_refl _)
  · refine hv_iload C dX5_countBestClips_21 0 rfl ?_
    refine hv_aload_n C dX5_countBestClips_23 3 rfl ?_
    refine hv_get C dX5_countBestClips_24 (fun w h => hw_c (tw_u_5 w h)) 0 (ci := 3) rfl rfl 2 (by decide) (hw_c tw_f_RX5_11) rfl ?_
    refine hv_alen C 0 dX5_countBestClips_27 1 rfl rfl (v := zI (45)) (rfl) ?_
    refine hv_icmp_ge C dX5_countBestClips_28 (tgt := 57) (by decide) (zI_le (by omega)) (fun hc28 => ?_) (fun hc28 => ?_)
    · exfalso; omega
    · refine hv_aload_n C dX5_countBestClips_31 3 rfl ?_
      refine hv_iload_n C dX5_countBestClips_32 4 rfl ?_
      refine hv_aload_n C dX5_countBestClips_33 3 rfl ?_
      refine hv_get C dX5_countBestClips_34 (fun w h => hw_c (tw_u_5 w h)) 0 (ci := 3) rfl rfl 2 (by decide) (hw_c tw_f_RX5_11) rfl ?_
      refine hv_iload C dX5_countBestClips_37 0 rfl ?_
      refine hv_iald C dX5_countBestClips_39 1 rfl (i) (zI_ix (by omega)) (by omega) (by omega) (v := (zI (((wo_cls S r).getD i 0 : Int)))) rfl ?_
      refine hv_iconst C dX5_countBestClips_40 (v := zI (0)) rfl ?_
      refine hv_callV (As := [.int (zI ((h : Int))), .int (zI (((wo_cls S r).getD i 0 : Int))), .int (zI (0))]) (rest := []) (wc := [(o9, .inr (3, [.int (zI ((S : Int))), .int (zI ((w : Int))), .ref c8, .int (zI (((wo_cls S r).length : Int))), .ref k9])), (c8, .inl (dA 0, 45, .inl (wo_cf S r))), (k9, .inl (dA 1, (4 ^ S), .inl (kf6)))]) (wr := []) C (k_X5_gain0 l D dA o9 c8 k9 S w r hS hw hr h ((wo_cls S r).getD i 0) kf6 hh (wo_cls_ok S (by omega) r (by omega) _ (wo_mem (l := wo_cls S r) (i := i) (by omega))) hk6) (cwV 3 C.1.2.2.2.2 (hw_V tw_m_RX5_56 tw_i_X5_gainAt tw_s_X5_gainAt tw_n_RX5 tw_k_X5_gainAt) rfl rfl rfl (by decide +kernel) ⟨Nat.le_of_ble_eq_true rfl, Nat.le_of_ble_eq_true rfl⟩) (hv_pm [0, 0, 0] rfl) rfl 0 3 rfl rfl rfl (Nat.le_of_ble_eq_true rfl) dX5_countBestClips_41 ⟨Nat.le_of_ble_eq_true rfl, Nat.le_of_ble_eq_true rfl⟩ (fun kf7 hk7 => ?_)
      refine hv_eqst (st' := [.int (zI (wo_gain S w (wo S w r) h ((wo_cls S r).getD i 0)))]) rfl ?_
      refine hv_weq (ws' := [(o9, .inr (3, [.int (zI ((S : Int))), .int (zI ((w : Int))), .ref c8, .int (zI (((wo_cls S r).length : Int))), .ref k9])), (c8, .inl (dA 0, 45, .inl (wo_cf S r))), (k9, .inl (dA 1, (4 ^ S), .inl (kf7)))]) (rfl) ?_
      refine hv_iload_n C dX5_countBestClips_44 2 rfl ?_
      refine hv_icmp_ne C dX5_countBestClips_45 (tgt := 51) (by decide) (zI_ne (by have := wo_6 (w := w) hS hr hh; have := wo_gran (w := w) (c := (wo_cls S r).getD i 0) hS hr hh; omega)) (fun hc45 => ?_) (fun hc45 => ?_)
      · refine hv_iinc C dX5_countBestClips_51 0 rfl (v := zI (((i + 1 : Nat) : Int))) ((zI_add _ _).trans (zI_c (by omega))) (by decide) (lw := [(4, .int (zI (((i + 1 : Nat) : Int)))), (3, .int (zI ((c7 : Int)))), (2, .int (zI (wo S w r h))), (0, .ref o9), (1, .int (zI ((h : Int))))]) rfl ?_
        refine hv_goto C dX5_countBestClips_54 (tgt := 12) (by decide) ?_
        refine hv_lsub [0, 1, 2, 3, 4] (lv' := [(4, .int (zI (((i + 1 : Nat) : Int)))), (3, .int (zI ((c7 : Int)))), (2, .int (zI (wo S w r h))), (0, .ref o9), (1, .int (zI ((h : Int))))]) rfl ?_
        have hp : ¬ wo_isb S w r h ((wo_cls S r).getD i 0) = true := by rw [wo_isb, decide_eq_true_iff]; omega
        exact ih (n - 1) (i + 1, c7, kf7) (by omega) ⟨by dsimp only; omega, by dsimp only; rw [wo_cnt_step (by omega), ← hg1]; first | rw [if_pos hp] | rw [if_neg hp, Nat.add_zero], hk7⟩
      · refine hv_iinc C dX5_countBestClips_48 1 rfl (v := zI (((c7 + 1 : Nat) : Int))) ((zI_add _ _).trans (zI_c (by omega))) (by decide) (lw := [(3, .int (zI (((c7 + 1 : Nat) : Int)))), (4, .int (zI ((i : Int)))), (2, .int (zI (wo S w r h))), (0, .ref o9), (1, .int (zI ((h : Int))))]) rfl ?_
        refine hv_iinc C dX5_countBestClips_51 1 rfl (v := zI (((i + 1 : Nat) : Int))) ((zI_add _ _).trans (zI_c (by omega))) (by decide) (lw := [(4, .int (zI (((i + 1 : Nat) : Int)))), (3, .int (zI (((c7 + 1 : Nat) : Int)))), (2, .int (zI (wo S w r h))), (0, .ref o9), (1, .int (zI ((h : Int))))]) rfl ?_
        refine hv_goto C dX5_countBestClips_54 (tgt := 12) (by decide) ?_
        refine hv_lsub [0, 1, 2, 3, 4] (lv' := [(4, .int (zI (((i + 1 : Nat) : Int)))), (3, .int (zI (((c7 + 1 : Nat) : Int)))), (2, .int (zI (wo S w r h))), (0, .ref o9), (1, .int (zI ((h : Int))))]) rfl ?_
        have hp : wo_isb S w r h ((wo_cls S r).getD i 0) = true := decide_eq_true (by omega)
        exact ih (n - 1) (i + 1, c7 + 1, kf7) (by omega) ⟨by dsimp only; omega, by dsimp only; rw [wo_cnt_step (by omega), ← hg1]; first | rw [if_pos hp] | rw [if_neg hp, Nat.add_zero], hk7⟩

set_option maxHeartbeats 4000000 in
set_option maxRecDepth 100000 in
theorem k_X5_behindBestClip (l : Launch) (D : va_G) (dA : Nat → ClassId) (o9 c8 k9 S w r : Nat) (hS : 2 ≤ S ∧ S ≤ 6) (hw : w < 3) (hr : 1 ≤ r ∧ r ≤ 3) (h : Nat) (hh : h < 4 ^ S) (kf : Nat → Int32) (hk : wo_kn S w r kf) : hv_Ct l yX5_behindBestClip (hw_W yX5_behindBestClip cX5_behindBestClip 3 (some .int)) 41 D dA [.ref o9, .int (zI ((h : Int)))] ([(o9, .inr (3, [.int (zI ((S : Int))), .int (zI ((w : Int))), .ref c8, .int (zI (((wo_cls S r).length : Int))), .ref k9])), (c8, .inl (dA 0, 45, .inl (wo_cf S r))), (k9, .inl (dA 1, (4 ^ S), .inl (kf)))]) 0 0 (S := Nat → Int32) (fun _ => some (.int (zI ((wo_next S w r h : Int))))) (wo_kn S w r) (fun kf2 => O3 dA o9 c8 k9 S w r kf2) := by
  have hx : h < 4096 := sp_hlt hS.2 hh
  have h4S := sp_4S hS.2
  refine hv_of (cc := cX5_behindBestClip) (maxL := 3) (ret := (some .int)) (own := RX5) rfl (by decide) rfl (Nat.le_of_ble_eq_true rfl) ?_
  intro p e s m args below meth c C M
  refine hv_lveq (lv' := [(0, .ref o9), (1, .int (zI ((h : Int))))]) rfl ?_
  refine hv_aload_n C dX5_behindBestClip_0 0 rfl ?_
  refine hv_iload_n C dX5_behindBestClip_1 1 rfl ?_
  refine hv_callV (As := [.int (zI ((h : Int)))]) (rest := []) (wc := [(o9, .inr (3, [.int (zI ((S : Int))), .int (zI ((w : Int))), .ref c8, .int (zI (((wo_cls S r).length : Int))), .ref k9])), (c8, .inl (dA 0, 45, .inl (wo_cf S r))), (k9, .inl (dA 1, (4 ^ S), .inl (kf)))]) (wr := []) C (k_X5_bestClipOf l D dA o9 c8 k9 S w r hS hw hr h hh kf hk) (cwV 1 C.1.2.2.2.2 (hw_V tw_m_RX5_59 tw_i_X5_bestClipOf tw_s_X5_bestClipOf tw_n_RX5 tw_k_X5_bestClipOf) rfl rfl rfl (by decide +kernel) ⟨Nat.le_of_ble_eq_true rfl, Nat.le_of_ble_eq_true rfl⟩) (hv_pm [0, 0, 0] rfl) rfl 0 3 rfl rfl rfl (Nat.le_of_ble_eq_true rfl) dX5_behindBestClip_2 ⟨Nat.le_of_ble_eq_true rfl, Nat.le_of_ble_eq_true rfl⟩ (fun kf5 hk5 => ?_)
  refine hv_eqst (st' := [.int (zI (wo_best S w r h))]) rfl ?_
  refine hv_weq (ws' := [(o9, .inr (3, [.int (zI ((S : Int))), .int (zI ((w : Int))), .ref c8, .int (zI (((wo_cls S r).length : Int))), .ref k9])), (c8, .inl (dA 0, 45, .inl (wo_cf S r))), (k9, .inl (dA 1, (4 ^ S), .inl (kf5)))]) (rfl) ?_
  rcases wo_best_or (w := w) hS hr hh with ⟨hb1, hb2⟩ | ⟨c9, hcm, hb1, hb2, hn, -⟩
  · rw [hb1]
    refine hv_istore_n C dX5_behindBestClip_5 (lw := [(2, .int (zI (-1))), (0, .ref o9), (1, .int (zI ((h : Int))))]) (by decide) rfl ?_
    refine hv_iload_n C dX5_behindBestClip_6 0 rfl ?_
    refine hv_iconst C dX5_behindBestClip_7 (v := zI (-1)) rfl ?_
    refine hv_icmp_ne C dX5_behindBestClip_8 (tgt := 15) (by decide) (zI_ne (by omega)) (fun hc8 => ?_) (fun hc8 => ?_)
    · exfalso; omega
    · refine hv_iload_n C dX5_behindBestClip_11 2 rfl ?_
      refine hv_goto C dX5_behindBestClip_12 (tgt := 31) (by decide) ?_
      exact hv_iret C M dX5_behindBestClip_31 rfl rfl kf5 hk5 (hv_rv (by rw [hb2])) [] (List.Perm.of_eq (by first | rfl | exact (List.append_nil _).symm)) (Nat.le_refl _) (Nat.le_refl _)
  · rw [hb1]
    have hok := wo_cls_ok S (by omega) r (by omega) c9 hcm
    obtain ⟨ho1, ho2, ho3, ho4⟩ := hok
    refine hv_istore_n C dX5_behindBestClip_5 (lw := [(2, .int (zI ((c9 : Int)))), (0, .ref o9), (1, .int (zI ((h : Int))))]) (by decide) rfl ?_
    refine hv_iload_n C dX5_behindBestClip_6 0 rfl ?_
    refine hv_iconst C dX5_behindBestClip_7 (v := zI (-1)) rfl ?_
    refine hv_icmp_ne C dX5_behindBestClip_8 (tgt := 15) (by decide) (zI_ne (by omega)) (fun hc8 => ?_) (fun hc8 => ?_)
    · refine hv_iload_n C dX5_behindBestClip_15 2 rfl ?_
      refine hv_iload_n C dX5_behindBestClip_16 0 rfl ?_
      refine hv_callS (As := [.int (zI ((h : Int))), .int (zI ((c9 : Int)))]) (rest := []) (wc := []) (wr := [(o9, .inr (3, [.int (zI ((S : Int))), .int (zI ((w : Int))), .ref c8, .int (zI (((wo_cls S r).length : Int))), .ref k9])), (c8, .inl (dA 0, 45, .inl (wo_cf S r))), (k9, .inl (dA 1, (4 ^ S), .inl (kf5)))]) C (k_X3_clipped l D dA (h) (c9) (by omega) (by omega) (by omega) (by omega)) (va_cwS 2 C.1.2.2.2.2 (hw_S tw_m_RX5_50 tw_t_X3_clipped tw_n_RX3 tw_k_X3_clipped) rfl rfl rfl (by decide +kernel) ⟨Nat.le_of_ble_eq_true rfl, Nat.le_of_ble_eq_true rfl⟩) (hv_pm [] rfl) rfl rfl (Nat.le_of_ble_eq_true rfl) dX5_behindBestClip_17 ⟨Nat.le_of_ble_eq_true rfl, Nat.le_of_ble_eq_true rfl⟩ (fun _ _ => ?_)
      refine hv_eqst (st' := [.int (zI ((sp_cc (h) (c9) : Int)))]) rfl ?_
      refine hv_weq (ws' := [(o9, .inr (3, [.int (zI ((S : Int))), .int (zI ((w : Int))), .ref c8, .int (zI (((wo_cls S r).length : Int))), .ref k9])), (c8, .inl (dA 0, 45, .inl (wo_cf S r))), (k9, .inl (dA 1, (4 ^ S), .inl (kf5)))]) (rfl) ?_
      refine hv_aload_n C dX5_behindBestClip_20 1 rfl ?_
      refine hv_get C dX5_behindBestClip_21 (fun w h => hw_c (tw_u_5 w h)) 0 (ci := 3) rfl rfl 0 (by decide) (hw_c tw_f_RX5_24) rfl ?_
      refine hv_aload_n C dX5_behindBestClip_24 1 rfl ?_
      refine hv_get C dX5_behindBestClip_25 (fun w h => hw_c (tw_u_5 w h)) 0 (ci := 3) rfl rfl 1 (by decide) (hw_c tw_f_RX5_28) rfl ?_
      refine hv_callS (As := [.int (zI ((sp_cc (h) (c9) : Int))), .int (zI ((S : Int))), .int (zI ((w : Int)))]) (rest := []) (wc := []) (wr := [(o9, .inr (3, [.int (zI ((S : Int))), .int (zI ((w : Int))), .ref c8, .int (zI (((wo_cls S r).length : Int))), .ref k9])), (c8, .inl (dA 0, 45, .inl (wo_cf S r))), (k9, .inl (dA 1, (4 ^ S), .inl (kf5)))]) C (k_X3_blown l D dA S w (sp_cc h c9) (by omega) (by omega) (by omega) hS hw (Nat.lt_of_le_of_lt (sp_cc_le h c9) hh) (Nat.lt_of_le_of_lt (sp_cc_le h c9) hx)) (va_cwS 3 C.1.2.2.2.2 (hw_S tw_m_RX5_62 tw_t_X3_blown tw_n_RX3 tw_k_X3_blown) rfl rfl rfl (by decide +kernel) ⟨Nat.le_of_ble_eq_true rfl, Nat.le_of_ble_eq_true rfl⟩) (hv_pm [] rfl) rfl rfl (Nat.le_of_ble_eq_true rfl) dX5_behindBestClip_28 ⟨Nat.le_of_ble_eq_true rfl, Nat.le_of_ble_eq_true rfl⟩ (fun _ _ => ?_)
      refine hv_eqst (st' := [.int (zI ((sp_bh S w h c9 : Int)))]) rfl ?_
      refine hv_weq (ws' := [(o9, .inr (3, [.int (zI ((S : Int))), .int (zI ((w : Int))), .ref c8, .int (zI (((wo_cls S r).length : Int))), .ref k9])), (c8, .inl (dA 0, 45, .inl (wo_cf S r))), (k9, .inl (dA 1, (4 ^ S), .inl (kf5)))]) (rfl) ?_
      exact hv_iret C M dX5_behindBestClip_31 rfl rfl kf5 hk5 (hv_rv (by rw [hb2])) [] (List.Perm.of_eq (by first | rfl | exact (List.append_nil _).symm)) (Nat.le_refl _) (Nat.le_refl _)
    · exfalso; omega

set_option maxHeartbeats 4000000 in
set_option maxRecDepth 100000 in
theorem k_X5_init (l : Launch) (D : va_G) (dA : Nat → ClassId) (o9 S w r : Nat) (hS : 2 ≤ S ∧ S ≤ 6) (hw : w < 3) (hr : 1 ≤ r ∧ r ≤ 3) : hv_Ct l yX5_init (hw_W yX5_init cX5_init 8 none) 2 D dA [.ref o9, .int (zI ((S : Int))), .int (zI ((w : Int))), .int (zI ((r : Int)))] ([(o9, .inr (3, [.int (zI (0)), .int (zI (0)), .null, .int (zI (0)), .null]))]) 2 (45 + 4 ^ S) (S := Nat × Nat) (fun _ => none) (fun _ => True) (fun u => O3 dA o9 u.1 u.2 S w r (fun _ => 0)) := by
  have h4S := sp_4S hS.2
  refine hv_of (cc := cX5_init) (maxL := 8) (ret := none) (own := RX5) rfl (by decide) rfl (Nat.le_of_ble_eq_true rfl) ?_
  intro p e s m args below meth c C M
  refine hv_lveq (lv' := [(0, .ref o9), (1, .int (zI ((S : Int)))), (2, .int (zI ((w : Int)))), (3, .int (zI ((r : Int))))]) rfl ?_
  refine hv_aload_n C dX5_init_0 0 rfl ?_
  refine hv_obj C dX5_init_1 (hw_c tw_m_RX5_3) (hw_c tw_i_objectInit) (hw_c tw_k_objectInit) (Nat.le_of_ble_eq_true rfl) ⟨Nat.le_of_ble_eq_true rfl, Nat.le_of_ble_eq_true rfl⟩ ?_
  refine hv_aload_n C dX5_init_4 0 rfl ?_
  refine hv_bipush C dX5_init_5 (v := zI (45)) (by decide +kernel) ?_
  refine hv_newa C (atype := .int) (ty := .int) dX5_init_7 rfl (hw_c tw_a_int) 0 rfl (fun _ h => by cases h) (N' := 45) (45, .inl (wo_lf [])) (fun _ => rfl) (rfl) (by decide) (by decide) (Nat.le_of_ble_eq_true rfl) (Nat.le_add_right 45 _) (fun c8 => ?_)
  refine hv_weq (ws' := [(o9, .inr (3, [.int (zI (0)), .int (zI (0)), .null, .int (zI (0)), .null])), (c8, .inl (dA 0, 45, .inl (wo_lf [])))]) rfl ?_
  refine hv_putF C dX5_init_9 (fun w h => hw_c (tw_u_5 w h)) tyX5 tyX5_ok nmX5 0 (ci := 3) (ty := (.array .int)) rfl rfl 2 (by decide) (hw_c tw_f_RX5_11) rfl M.2.2 rfl rfl rfl rfl (Nat.le_of_ble_eq_true rfl) ?_
  refine hv_weq (ws' := [(o9, .inr (3, [.int (zI (0)), .int (zI (0)), .ref c8, .int (zI (0)), .null])), (c8, .inl (dA 0, 45, .inl (wo_lf [])))]) rfl ?_
  refine hv_aload_n C dX5_init_12 0 rfl ?_
  refine hv_iconst C dX5_init_13 (v := zI (2)) rfl ?_
  refine hv_iload_n C dX5_init_14 1 rfl ?_
  refine hv_bipush C dX5_init_15 (v := zI (6)) (by decide +kernel) ?_
  refine hv_mmin C dX5_init_17 (hw_c tw_m_RX5_15) (hw_c tw_t_Lib_Math_min_name) (hw_c tw_n_java_lang_Math) (hw_c tw_k_Lib_Math_min_name) (Nat.le_of_ble_eq_true rfl) (Nat.le_of_ble_eq_true rfl) (by exact Nat.le_of_ble_eq_true rfl) (by exact Nat.le_add_right 45 _) (z := zI ((S : Int))) (by rw [zI_min (by omega)]; exact zI_c (by omega)) ?_
  refine hv_mmax C dX5_init_20 (hw_c tw_m_RX5_21) (hw_c tw_t_Lib_Math_max_name) (hw_c tw_n_java_lang_Math) (hw_c tw_k_Lib_Math_max_name) (Nat.le_of_ble_eq_true rfl) (Nat.le_of_ble_eq_true rfl) (by exact Nat.le_of_ble_eq_true rfl) (by exact Nat.le_add_right 45 _) (z := zI ((S : Int))) (by rw [zI_max (by omega)]; exact zI_c (by omega)) ?_
  refine hv_putF C dX5_init_23 (fun w h => hw_c (tw_u_5 w h)) tyX5 tyX5_ok nmX5 0 (ci := 3) (ty := .int) rfl rfl 0 (by decide) (hw_c tw_f_RX5_24) rfl M.2.2 rfl rfl rfl rfl (Nat.le_of_ble_eq_true rfl) ?_
  refine hv_weq (ws' := [(o9, .inr (3, [.int (zI ((S : Int))), .int (zI (0)), .ref c8, .int (zI (0)), .null])), (c8, .inl (dA 0, 45, .inl (wo_lf [])))]) rfl ?_
  refine hv_aload_n C dX5_init_26 0 rfl ?_
  refine hv_iload_n C dX5_init_27 2 rfl ?_
  refine hv_putF C dX5_init_28 (fun w h => hw_c (tw_u_5 w h)) tyX5 tyX5_ok nmX5 0 (ci := 3) (ty := .int) rfl rfl 1 (by decide) (hw_c tw_f_RX5_28) rfl M.2.2 rfl rfl rfl rfl (Nat.le_of_ble_eq_true rfl) ?_
  refine hv_weq (ws' := [(o9, .inr (3, [.int (zI ((S : Int))), .int (zI ((w : Int))), .ref c8, .int (zI (0)), .null])), (c8, .inl (dA 0, 45, .inl (wo_lf [])))]) rfl ?_
  refine hv_aload_n C dX5_init_31 0 rfl ?_
  refine hv_aload_n C dX5_init_32 0 rfl ?_
  refine hv_get C dX5_init_33 (fun w h => hw_c (tw_u_5 w h)) 0 (ci := 3) rfl rfl 0 (by decide) (hw_c tw_f_RX5_24) rfl ?_
  refine hv_callS (As := [.int (zI ((S : Int)))]) (rest := [.ref o9]) (wc := []) (wr := [(o9, .inr (3, [.int (zI ((S : Int))), .int (zI ((w : Int))), .ref c8, .int (zI (0)), .null])), (c8, .inl (dA 0, 45, .inl (wo_lf [])))]) C (k_X3_hedges l D dA S (by omega) (by omega)) (va_cwS 1 C.1.2.2.2.2 (hw_S tw_m_RX5_31 tw_t_X3_hedges tw_n_RX3 tw_k_X3_hedges) rfl rfl rfl (by decide +kernel) ⟨Nat.le_of_ble_eq_true rfl, Nat.le_of_ble_eq_true rfl⟩) (hv_pm [] rfl) rfl rfl (Nat.le_of_ble_eq_true rfl) dX5_init_36 ⟨Nat.le_of_ble_eq_true rfl, Nat.le_add_right 45 _⟩ (fun _ _ => ?_)
  refine hv_eqst (st' := [.int (zI (((4 ^ S : Nat) : Int))), .ref o9]) rfl ?_
  refine hv_weq (ws' := [(o9, .inr (3, [.int (zI ((S : Int))), .int (zI ((w : Int))), .ref c8, .int (zI (0)), .null])), (c8, .inl (dA 0, 45, .inl (wo_lf [])))]) (rfl) ?_
  refine hv_newa C (atype := .byte) (ty := .byte) dX5_init_39 rfl (hw_c tw_a_byte) 1 rfl (fun _ h => by cases h) (N' := (4 ^ S)) ((4 ^ S), .inl (fun _ => 0)) (fun _ => rfl) (zI_nat _) (by omega) (by show 4 ^ S * 1 ≤ 536870912; omega) (Nat.le_of_ble_eq_true rfl) (Nat.le_refl (45 + 4 ^ S)) (fun k9 => ?_)
  refine hv_weq (ws' := [(o9, .inr (3, [.int (zI ((S : Int))), .int (zI ((w : Int))), .ref c8, .int (zI (0)), .null])), (c8, .inl (dA 0, 45, .inl (wo_lf []))), (k9, .inl (dA 1, (4 ^ S), .inl (fun _ => 0)))]) rfl ?_
  refine hv_putF C dX5_init_41 (fun w h => hw_c (tw_u_5 w h)) tyX5 tyX5_ok nmX5 0 (ci := 3) (ty := (.array .byte)) rfl rfl 4 (by decide) (hw_c tw_f_RX5_37) rfl M.2.2 rfl rfl rfl rfl (Nat.le_of_ble_eq_true rfl) ?_
  refine hv_weq (ws' := [(o9, .inr (3, [.int (zI ((S : Int))), .int (zI ((w : Int))), .ref c8, .int (zI (0)), .ref k9])), (c8, .inl (dA 0, 45, .inl (wo_lf []))), (k9, .inl (dA 1, (4 ^ S), .inl (fun _ => 0)))]) rfl ?_
  refine hv_iconst C dX5_init_44 (v := zI (0)) rfl ?_
  refine hv_istore C dX5_init_45 (lw := [(4, .int (zI (0))), (0, .ref o9), (1, .int (zI ((S : Int)))), (2, .int (zI ((w : Int)))), (3, .int (zI ((r : Int))))]) (by decide) rfl ?_
  refine hv_iconst C dX5_init_47 (v := zI (0)) rfl ?_
  refine hv_istore C dX5_init_48 (lw := [(5, .int (zI (0))), (4, .int (zI (0))), (0, .ref o9), (1, .int (zI ((S : Int)))), (2, .int (zI ((w : Int)))), (3, .int (zI ((r : Int))))]) (by decide) rfl ?_
  refine hv_lsub [0, 1, 2, 5] (lv' := [(5, .int (zI (0))), (4, .int (zI (0))), (0, .ref o9), (3, .int (zI ((r : Int))))]) rfl ?_
  refine hv_loop (σ := Nat) (fun n x => x + n = S) (fun x => [(o9, .inr (3, [.int (zI ((S : Int))), .int (zI ((w : Int))), .ref c8, .int (zI (0)), .ref k9])), (c8, .inl (dA 0, 45, .inl (wo_lf (wo_as S r x)))), (k9, .inl (dA 1, (4 ^ S), .inl (fun _ => 0)))]) (fun x => [(5, .int (zI ((x : Int)))), (4, .int (zI (((wo_as S r x).length : Int)))), (0, .ref o9), (3, .int (zI ((r : Int))))]) (fun x => []) (fun _ => 2) (fun _ => 45 + 4 ^ S) (S) (0) (Nat.zero_add _) (⟨rfl, rfl, rfl, rfl, by omega⟩) (fun n x hI ih => ?_)
  obtain ⟨a, rfl⟩ : ∃ a, a = x := ⟨x, rfl⟩
  refine hv_iload C dX5_init_50 0 rfl ?_
  refine hv_aload_n C dX5_init_52 2 rfl ?_
  refine hv_get C dX5_init_53 (fun w h => hw_c (tw_u_5 w h)) 0 (ci := 3) rfl rfl 0 (by decide) (hw_c tw_f_RX5_24) rfl ?_
  refine hv_icmp_ge C dX5_init_56 (tgt := 137) (by decide) (zI_le (by omega)) (fun hc56 => ?_) (fun hc56 => ?_)
  · have ha0 : S = a := by omega
    subst ha0
    refine hv_aload_n C dX5_init_137 2 rfl ?_
    refine hv_iload C dX5_init_138 1 rfl ?_
    refine hv_putF C dX5_init_140 (fun w h => hw_c (tw_u_5 w h)) tyX5 tyX5_ok nmX5 0 (ci := 3) (ty := .int) rfl rfl 3 (by decide) (hw_c tw_f_RX5_47) rfl M.2.2 rfl rfl rfl rfl (Nat.le_of_ble_eq_true rfl) ?_
    refine hv_weq (ws' := [(o9, .inr (3, [.int (zI ((S : Int))), .int (zI ((w : Int))), .ref c8, .int (zI ((((wo_as S r S)).length : Int))), .ref k9])), (c8, .inl (dA 0, 45, .inl (wo_lf (wo_as S r S)))), (k9, .inl (dA 1, (4 ^ S), .inl (fun _ => 0)))]) rfl ?_
    exact hv_vret C M dX5_init_143 rfl (c8, k9) trivial rfl [] (List.Perm.of_eq (by first | rfl | exact (List.append_nil _).symm)) (Nat.le_refl _) (Nat.le_refl _)
  · refine hv_iload C dX5_init_59 0 rfl ?_
    refine hv_istore C dX5_init_61 (lw := [(6, .int (zI ((a : Int)))), (5, .int (zI ((a : Int)))), (4, .int (zI (((wo_as S r a).length : Int)))), (0, .ref o9), (3, .int (zI ((r : Int))))]) (by decide) rfl ?_
    refine hv_loop (σ := Nat) (fun n2 x => x + n2 = r) (fun x => [(o9, .inr (3, [.int (zI ((S : Int))), .int (zI ((w : Int))), .ref c8, .int (zI (0)), .ref k9])), (c8, .inl (dA 0, 45, .inl (wo_lf (wo_as S r a ++ wo_ds S a x)))), (k9, .inl (dA 1, (4 ^ S), .inl (fun _ => 0)))]) (fun x => [(6, .int (zI (((a + x : Nat) : Int)))), (5, .int (zI ((a : Int)))), (4, .int (zI (((wo_as S r a ++ wo_ds S a x).length : Int)))), (0, .ref o9), (3, .int (zI ((r : Int))))]) (fun x => []) (fun _ => 2) (fun _ => 45 + 4 ^ S) (r) (0) (Nat.zero_add _) (⟨by rw [show wo_ds S a 0 = [] from rfl, List.append_nil], by rw [show wo_ds S a 0 = [] from rfl, List.append_nil]; rfl, rfl, rfl, rfl⟩) (fun n2 x hI2 ih2 => ?_)
    obtain ⟨d9, rfl⟩ : ∃ d, d = x := ⟨x, rfl⟩
    refine hv_iload C dX5_init_63 0 rfl ?_
    refine hv_aload_n C dX5_init_65 3 rfl ?_
    refine hv_get C dX5_init_66 (fun w h => hw_c (tw_u_5 w h)) 0 (ci := 3) rfl rfl 0 (by decide) (hw_c tw_f_RX5_24) rfl ?_
    refine hv_icmp_ge C dX5_init_69 (tgt := 131) (by decide) (zI_le (by omega)) (fun hc69 => ?_) (fun hc69 => ?_)
    · have hpu : wo_as S r a ++ wo_ds S a d9 = wo_as S r (a + 1) := by rw [wo_as_step]; rcases (show d9 = r ∨ S ≤ a + d9 by omega) with q | q; rw [q]; have := wo_ds_end S a (r - d9) d9 q; rw [show d9 + (r - d9) = r by omega] at this; rw [this]
      rw [hpu]
      refine hv_iinc C dX5_init_131 1 rfl (v := zI (((a + 1 : Nat) : Int))) ((zI_add _ _).trans (zI_c (by omega))) (by decide) (lw := [(5, .int (zI (((a + 1 : Nat) : Int)))), (6, .int (zI (((a + d9 : Nat) : Int)))), (4, .int (zI (((wo_as S r (a + 1)).length : Int)))), (0, .ref o9), (3, .int (zI ((r : Int))))]) rfl ?_
      refine hv_goto C dX5_init_134 (tgt := 50) (by decide) ?_
      refine hv_lsub [0, 2, 3, 4] (lv' := [(5, .int (zI (((a + 1 : Nat) : Int)))), (4, .int (zI (((wo_as S r (a + 1)).length : Int)))), (0, .ref o9), (3, .int (zI ((r : Int))))]) rfl ?_
      exact ih (n - 1) (a + 1) (by omega) (by omega)
    · refine hv_iload C dX5_init_72 0 rfl ?_
      refine hv_iload C dX5_init_74 1 rfl ?_
      refine hv_isub C dX5_init_76 (zI_sub _ _) ?_
      refine hv_iload_n C dX5_init_77 4 rfl ?_
      refine hv_icmp_ge C dX5_init_78 (tgt := 131) (by decide) (zI_le (by omega)) (fun hc78 => ?_) (fun hc78 => ?_)
      · have hpu : wo_as S r a ++ wo_ds S a d9 = wo_as S r (a + 1) := by rw [wo_as_step]; rcases (show d9 = r ∨ S ≤ a + d9 by omega) with q | q; rw [q]; have := wo_ds_end S a (r - d9) d9 q; rw [show d9 + (r - d9) = r by omega] at this; rw [this]
        rw [hpu]
        refine hv_iinc C dX5_init_131 1 rfl (v := zI (((a + 1 : Nat) : Int))) ((zI_add _ _).trans (zI_c (by omega))) (by decide) (lw := [(5, .int (zI (((a + 1 : Nat) : Int)))), (6, .int (zI (((a + d9 : Nat) : Int)))), (4, .int (zI (((wo_as S r (a + 1)).length : Int)))), (0, .ref o9), (3, .int (zI ((r : Int))))]) rfl ?_
        refine hv_goto C dX5_init_134 (tgt := 50) (by decide) ?_
        refine hv_lsub [0, 2, 3, 4] (lv' := [(5, .int (zI (((a + 1 : Nat) : Int)))), (4, .int (zI (((wo_as S r (a + 1)).length : Int)))), (0, .ref o9), (3, .int (zI ((r : Int))))]) rfl ?_
        exact ih (n - 1) (a + 1) (by omega) (by omega)
      · have hro : (wo_as S r a ++ wo_ds S a d9).length + 3 ≤ 45 := by rw [List.length_append]; rcases wo_room S (by omega) r (by omega) a (by omega) d9 (by omega) with q | q <;> omega
        have hl1 : ((wo_as S r a ++ wo_ds S a d9) ++ [100 * a + 10 * (a + d9) + 1]).length = (wo_as S r a ++ wo_ds S a d9).length + 1 := List.length_append
        have hl2 : (((wo_as S r a ++ wo_ds S a d9) ++ [100 * a + 10 * (a + d9) + 1]) ++ [100 * a + 10 * (a + d9) + 2]).length = ((wo_as S r a ++ wo_ds S a d9) ++ [100 * a + 10 * (a + d9) + 1]).length + 1 := List.length_append
        have hl3 : ((((wo_as S r a ++ wo_ds S a d9) ++ [100 * a + 10 * (a + d9) + 1]) ++ [100 * a + 10 * (a + d9) + 2]) ++ [100 * a + 10 * (a + d9) + 3]).length = (((wo_as S r a ++ wo_ds S a d9) ++ [100 * a + 10 * (a + d9) + 1]) ++ [100 * a + 10 * (a + d9) + 2]).length + 1 := List.length_append
        refine hv_iconst C dX5_init_81 (v := zI (1)) rfl ?_
        refine hv_istore C dX5_init_82 (lw := [(7, .int (zI (1))), (6, .int (zI (((a + d9 : Nat) : Int)))), (5, .int (zI ((a : Int)))), (4, .int (zI ((((wo_as S r a ++ wo_ds S a d9)).length : Int)))), (0, .ref o9), (3, .int (zI ((r : Int))))]) (by decide) rfl ?_
        refine hv_iload C dX5_init_84 0 rfl ?_
        refine hv_iconst C dX5_init_86 (v := zI (3)) rfl ?_
        refine hv_icmp_gt C dX5_init_87 (tgt := 125) (by decide) (zI_lt (by omega)) (fun hc87 => ?_) (fun hc87 => ?_)
        · exfalso; omega
        · refine hv_iload C dX5_init_90 3 rfl ?_
          refine hv_aload_n C dX5_init_92 4 rfl ?_
          refine hv_get C dX5_init_93 (fun w h => hw_c (tw_u_5 w h)) 0 (ci := 3) rfl rfl 2 (by decide) (hw_c tw_f_RX5_11) rfl ?_
          refine hv_alen C 0 dX5_init_96 1 rfl rfl (v := zI (45)) (rfl) ?_
          refine hv_icmp_ge C dX5_init_97 (tgt := 119) (by decide) (zI_le (by omega)) (fun hc97 => ?_) (fun hc97 => ?_)
          · exfalso; omega
          · refine hv_aload_n C dX5_init_100 4 rfl ?_
            refine hv_get C dX5_init_101 (fun w h => hw_c (tw_u_5 w h)) 0 (ci := 3) rfl rfl 2 (by decide) (hw_c tw_f_RX5_11) rfl ?_
            refine hv_iload C dX5_init_104 3 rfl ?_
            refine hv_iload C dX5_init_106 2 rfl ?_
            refine hv_iload C dX5_init_108 1 rfl ?_
            refine hv_iload C dX5_init_110 0 rfl ?_
            refine hv_callS (As := [.int (zI ((a : Int))), .int (zI (((a + d9 : Nat) : Int))), .int (zI (1))]) (rest := [.int (zI ((((wo_as S r a ++ wo_ds S a d9)).length : Int))), .ref c8]) (wc := []) (wr := [(o9, .inr (3, [.int (zI ((S : Int))), .int (zI ((w : Int))), .ref c8, .int (zI (0)), .ref k9])), (c8, .inl (dA 0, 45, .inl (wo_lf (wo_as S r a ++ wo_ds S a d9)))), (k9, .inl (dA 1, (4 ^ S), .inl (fun _ => 0)))]) C (k_X0_number l D dA ((a : Int)) (((a + d9 : Nat) : Int)) (1)) (va_cwS 3 C.1.2.2.2.2 (hw_S tw_m_RX5_41 tw_t_X0_number tw_n_RX0 tw_k_X0_number) rfl rfl rfl (by decide +kernel) ⟨Nat.le_of_ble_eq_true rfl, Nat.le_of_ble_eq_true rfl⟩) (hv_pm [] rfl) rfl rfl (Nat.le_of_ble_eq_true rfl) dX5_init_112 ⟨Nat.le_refl _, Nat.le_refl _⟩ (fun _ _ => ?_)
            refine hv_eqst (st' := [.int (zI (100 * ((a : Int)) + 10 * (((a + d9 : Nat) : Int)) + (1))), .int (zI ((((wo_as S r a ++ wo_ds S a d9)).length : Int))), .ref c8]) rfl ?_
            refine hv_weq (ws' := [(o9, .inr (3, [.int (zI ((S : Int))), .int (zI ((w : Int))), .ref c8, .int (zI (0)), .ref k9])), (c8, .inl (dA 0, 45, .inl (wo_lf (wo_as S r a ++ wo_ds S a d9)))), (k9, .inl (dA 1, (4 ^ S), .inl (fun _ => 0)))]) (rfl) ?_
            refine hv_topi (y := zI (((100 * a + 10 * (a + d9) + 1 : Nat) : Int))) (by exact zI_c (by omega)) ?_
            refine hv_iast C dX5_init_115 1 rfl ((wo_as S r a ++ wo_ds S a d9).length) (zI_nat _) (by omega) (by omega) ?_
            refine hv_weq (ws' := [(o9, .inr (3, [.int (zI ((S : Int))), .int (zI ((w : Int))), .ref c8, .int (zI (0)), .ref k9])), (c8, .inl (dA 0, 45, .inl (wo_lf ((wo_as S r a ++ wo_ds S a d9) ++ [100 * a + 10 * (a + d9) + 1])))), (k9, .inl (dA 1, (4 ^ S), .inl (fun _ => 0)))]) ((by rw [wo_lf_push]; rfl)) ?_
            refine hv_iinc C dX5_init_116 3 rfl (v := zI (((((wo_as S r a ++ wo_ds S a d9) ++ [100 * a + 10 * (a + d9) + 1])).length : Int))) ((zI_add _ _).trans (zI_c (by omega))) (by decide) (lw := [(4, .int (zI (((((wo_as S r a ++ wo_ds S a d9) ++ [100 * a + 10 * (a + d9) + 1])).length : Int)))), (7, .int (zI (1))), (6, .int (zI (((a + d9 : Nat) : Int)))), (5, .int (zI ((a : Int)))), (0, .ref o9), (3, .int (zI ((r : Int))))]) rfl ?_
            refine hv_iinc C dX5_init_119 1 rfl (v := zI (2)) ((zI_add _ _).trans (zI_c (by omega))) (by decide) (lw := [(7, .int (zI (2))), (4, .int (zI (((((wo_as S r a ++ wo_ds S a d9) ++ [100 * a + 10 * (a + d9) + 1])).length : Int)))), (6, .int (zI (((a + d9 : Nat) : Int)))), (5, .int (zI ((a : Int)))), (0, .ref o9), (3, .int (zI ((r : Int))))]) rfl ?_
            refine hv_goto C dX5_init_122 (tgt := 84) (by decide) ?_
            refine hv_iload C dX5_init_84 0 rfl ?_
            refine hv_iconst C dX5_init_86 (v := zI (3)) rfl ?_
            refine hv_icmp_gt C dX5_init_87 (tgt := 125) (by decide) (zI_lt (by omega)) (fun hc87 => ?_) (fun hc87 => ?_)
            · exfalso; omega
            · refine hv_iload C dX5_init_90 1 rfl ?_
              refine hv_aload_n C dX5_init_92 4 rfl ?_
              refine hv_get C dX5_init_93 (fun w h => hw_c (tw_u_5 w h)) 0 (ci := 3) rfl rfl 2 (by decide) (hw_c tw_f_RX5_11) rfl ?_
              refine hv_alen C 0 dX5_init_96 1 rfl rfl (v := zI (45)) (rfl) ?_
              refine hv_icmp_ge C dX5_init_97 (tgt := 119) (by decide) (zI_le (by omega)) (fun hc97 => ?_) (fun hc97 => ?_)
              · exfalso; omega
              · refine hv_aload_n C dX5_init_100 4 rfl ?_
                refine hv_get C dX5_init_101 (fun w h => hw_c (tw_u_5 w h)) 0 (ci := 3) rfl rfl 2 (by decide) (hw_c tw_f_RX5_11) rfl ?_
                refine hv_iload C dX5_init_104 1 rfl ?_
                refine hv_iload C dX5_init_106 3 rfl ?_
                refine hv_iload C dX5_init_108 2 rfl ?_
                refine hv_iload C dX5_init_110 0 rfl ?_
                refine hv_callS (As := [.int (zI ((a : Int))), .int (zI (((a + d9 : Nat) : Int))), .int (zI (2))]) (rest := [.int (zI (((((wo_as S r a ++ wo_ds S a d9) ++ [100 * a + 10 * (a + d9) + 1])).length : Int))), .ref c8]) (wc := []) (wr := [(o9, .inr (3, [.int (zI ((S : Int))), .int (zI ((w : Int))), .ref c8, .int (zI (0)), .ref k9])), (c8, .inl (dA 0, 45, .inl (wo_lf ((wo_as S r a ++ wo_ds S a d9) ++ [100 * a + 10 * (a + d9) + 1])))), (k9, .inl (dA 1, (4 ^ S), .inl (fun _ => 0)))]) C (k_X0_number l D dA ((a : Int)) (((a + d9 : Nat) : Int)) (2)) (va_cwS 3 C.1.2.2.2.2 (hw_S tw_m_RX5_41 tw_t_X0_number tw_n_RX0 tw_k_X0_number) rfl rfl rfl (by decide +kernel) ⟨Nat.le_of_ble_eq_true rfl, Nat.le_of_ble_eq_true rfl⟩) (hv_pm [] rfl) rfl rfl (Nat.le_of_ble_eq_true rfl) dX5_init_112 ⟨Nat.le_refl _, Nat.le_refl _⟩ (fun _ _ => ?_)
                refine hv_eqst (st' := [.int (zI (100 * ((a : Int)) + 10 * (((a + d9 : Nat) : Int)) + (2))), .int (zI (((((wo_as S r a ++ wo_ds S a d9) ++ [100 * a + 10 * (a + d9) + 1])).length : Int))), .ref c8]) rfl ?_
                refine hv_weq (ws' := [(o9, .inr (3, [.int (zI ((S : Int))), .int (zI ((w : Int))), .ref c8, .int (zI (0)), .ref k9])), (c8, .inl (dA 0, 45, .inl (wo_lf ((wo_as S r a ++ wo_ds S a d9) ++ [100 * a + 10 * (a + d9) + 1])))), (k9, .inl (dA 1, (4 ^ S), .inl (fun _ => 0)))]) (rfl) ?_
                refine hv_topi (y := zI (((100 * a + 10 * (a + d9) + 2 : Nat) : Int))) (by exact zI_c (by omega)) ?_
                refine hv_iast C dX5_init_115 1 rfl (((wo_as S r a ++ wo_ds S a d9) ++ [100 * a + 10 * (a + d9) + 1]).length) (zI_nat _) (by omega) (by omega) ?_
                refine hv_weq (ws' := [(o9, .inr (3, [.int (zI ((S : Int))), .int (zI ((w : Int))), .ref c8, .int (zI (0)), .ref k9])), (c8, .inl (dA 0, 45, .inl (wo_lf (((wo_as S r a ++ wo_ds S a d9) ++ [100 * a + 10 * (a + d9) + 1]) ++ [100 * a + 10 * (a + d9) + 2])))), (k9, .inl (dA 1, (4 ^ S), .inl (fun _ => 0)))]) ((by rw [wo_lf_push]; rfl)) ?_
                refine hv_iinc C dX5_init_116 1 rfl (v := zI ((((((wo_as S r a ++ wo_ds S a d9) ++ [100 * a + 10 * (a + d9) + 1]) ++ [100 * a + 10 * (a + d9) + 2])).length : Int))) ((zI_add _ _).trans (zI_c (by omega))) (by decide) (lw := [(4, .int (zI ((((((wo_as S r a ++ wo_ds S a d9) ++ [100 * a + 10 * (a + d9) + 1]) ++ [100 * a + 10 * (a + d9) + 2])).length : Int)))), (7, .int (zI (2))), (6, .int (zI (((a + d9 : Nat) : Int)))), (5, .int (zI ((a : Int)))), (0, .ref o9), (3, .int (zI ((r : Int))))]) rfl ?_
                refine hv_iinc C dX5_init_119 1 rfl (v := zI (3)) ((zI_add _ _).trans (zI_c (by omega))) (by decide) (lw := [(7, .int (zI (3))), (4, .int (zI ((((((wo_as S r a ++ wo_ds S a d9) ++ [100 * a + 10 * (a + d9) + 1]) ++ [100 * a + 10 * (a + d9) + 2])).length : Int)))), (6, .int (zI (((a + d9 : Nat) : Int)))), (5, .int (zI ((a : Int)))), (0, .ref o9), (3, .int (zI ((r : Int))))]) rfl ?_
                refine hv_goto C dX5_init_122 (tgt := 84) (by decide) ?_
                refine hv_iload C dX5_init_84 0 rfl ?_
                refine hv_iconst C dX5_init_86 (v := zI (3)) rfl ?_
                refine hv_icmp_gt C dX5_init_87 (tgt := 125) (by decide) (zI_lt (by omega)) (fun hc87 => ?_) (fun hc87 => ?_)
                · exfalso; omega
                · refine hv_iload C dX5_init_90 1 rfl ?_
                  refine hv_aload_n C dX5_init_92 4 rfl ?_
                  refine hv_get C dX5_init_93 (fun w h => hw_c (tw_u_5 w h)) 0 (ci := 3) rfl rfl 2 (by decide) (hw_c tw_f_RX5_11) rfl ?_
                  refine hv_alen C 0 dX5_init_96 1 rfl rfl (v := zI (45)) (rfl) ?_
                  refine hv_icmp_ge C dX5_init_97 (tgt := 119) (by decide) (zI_le (by omega)) (fun hc97 => ?_) (fun hc97 => ?_)
                  · exfalso; omega
                  · refine hv_aload_n C dX5_init_100 4 rfl ?_
                    refine hv_get C dX5_init_101 (fun w h => hw_c (tw_u_5 w h)) 0 (ci := 3) rfl rfl 2 (by decide) (hw_c tw_f_RX5_11) rfl ?_
                    refine hv_iload C dX5_init_104 1 rfl ?_
                    refine hv_iload C dX5_init_106 3 rfl ?_
                    refine hv_iload C dX5_init_108 2 rfl ?_
                    refine hv_iload C dX5_init_110 0 rfl ?_
                    refine hv_callS (As := [.int (zI ((a : Int))), .int (zI (((a + d9 : Nat) : Int))), .int (zI (3))]) (rest := [.int (zI ((((((wo_as S r a ++ wo_ds S a d9) ++ [100 * a + 10 * (a + d9) + 1]) ++ [100 * a + 10 * (a + d9) + 2])).length : Int))), .ref c8]) (wc := []) (wr := [(o9, .inr (3, [.int (zI ((S : Int))), .int (zI ((w : Int))), .ref c8, .int (zI (0)), .ref k9])), (c8, .inl (dA 0, 45, .inl (wo_lf (((wo_as S r a ++ wo_ds S a d9) ++ [100 * a + 10 * (a + d9) + 1]) ++ [100 * a + 10 * (a + d9) + 2])))), (k9, .inl (dA 1, (4 ^ S), .inl (fun _ => 0)))]) C (k_X0_number l D dA ((a : Int)) (((a + d9 : Nat) : Int)) (3)) (va_cwS 3 C.1.2.2.2.2 (hw_S tw_m_RX5_41 tw_t_X0_number tw_n_RX0 tw_k_X0_number) rfl rfl rfl (by decide +kernel) ⟨Nat.le_of_ble_eq_true rfl, Nat.le_of_ble_eq_true rfl⟩) (hv_pm [] rfl) rfl rfl (Nat.le_of_ble_eq_true rfl) dX5_init_112 ⟨Nat.le_refl _, Nat.le_refl _⟩ (fun _ _ => ?_)
                    refine hv_eqst (st' := [.int (zI (100 * ((a : Int)) + 10 * (((a + d9 : Nat) : Int)) + (3))), .int (zI ((((((wo_as S r a ++ wo_ds S a d9) ++ [100 * a + 10 * (a + d9) + 1]) ++ [100 * a + 10 * (a + d9) + 2])).length : Int))), .ref c8]) rfl ?_
                    refine hv_weq (ws' := [(o9, .inr (3, [.int (zI ((S : Int))), .int (zI ((w : Int))), .ref c8, .int (zI (0)), .ref k9])), (c8, .inl (dA 0, 45, .inl (wo_lf (((wo_as S r a ++ wo_ds S a d9) ++ [100 * a + 10 * (a + d9) + 1]) ++ [100 * a + 10 * (a + d9) + 2])))), (k9, .inl (dA 1, (4 ^ S), .inl (fun _ => 0)))]) (rfl) ?_
                    refine hv_topi (y := zI (((100 * a + 10 * (a + d9) + 3 : Nat) : Int))) (by exact zI_c (by omega)) ?_
                    refine hv_iast C dX5_init_115 1 rfl ((((wo_as S r a ++ wo_ds S a d9) ++ [100 * a + 10 * (a + d9) + 1]) ++ [100 * a + 10 * (a + d9) + 2]).length) (zI_nat _) (by omega) (by omega) ?_
                    refine hv_weq (ws' := [(o9, .inr (3, [.int (zI ((S : Int))), .int (zI ((w : Int))), .ref c8, .int (zI (0)), .ref k9])), (c8, .inl (dA 0, 45, .inl (wo_lf ((((wo_as S r a ++ wo_ds S a d9) ++ [100 * a + 10 * (a + d9) + 1]) ++ [100 * a + 10 * (a + d9) + 2]) ++ [100 * a + 10 * (a + d9) + 3])))), (k9, .inl (dA 1, (4 ^ S), .inl (fun _ => 0)))]) ((by rw [wo_lf_push]; rfl)) ?_
                    refine hv_iinc C dX5_init_116 1 rfl (v := zI (((((((wo_as S r a ++ wo_ds S a d9) ++ [100 * a + 10 * (a + d9) + 1]) ++ [100 * a + 10 * (a + d9) + 2]) ++ [100 * a + 10 * (a + d9) + 3])).length : Int))) ((zI_add _ _).trans (zI_c (by omega))) (by decide) (lw := [(4, .int (zI (((((((wo_as S r a ++ wo_ds S a d9) ++ [100 * a + 10 * (a + d9) + 1]) ++ [100 * a + 10 * (a + d9) + 2]) ++ [100 * a + 10 * (a + d9) + 3])).length : Int)))), (7, .int (zI (3))), (6, .int (zI (((a + d9 : Nat) : Int)))), (5, .int (zI ((a : Int)))), (0, .ref o9), (3, .int (zI ((r : Int))))]) rfl ?_
                    refine hv_iinc C dX5_init_119 1 rfl (v := zI (4)) ((zI_add _ _).trans (zI_c (by omega))) (by decide) (lw := [(7, .int (zI (4))), (4, .int (zI (((((((wo_as S r a ++ wo_ds S a d9) ++ [100 * a + 10 * (a + d9) + 1]) ++ [100 * a + 10 * (a + d9) + 2]) ++ [100 * a + 10 * (a + d9) + 3])).length : Int)))), (6, .int (zI (((a + d9 : Nat) : Int)))), (5, .int (zI ((a : Int)))), (0, .ref o9), (3, .int (zI ((r : Int))))]) rfl ?_
                    refine hv_goto C dX5_init_122 (tgt := 84) (by decide) ?_
                    refine hv_iload C dX5_init_84 0 rfl ?_
                    refine hv_iconst C dX5_init_86 (v := zI (3)) rfl ?_
                    refine hv_icmp_gt C dX5_init_87 (tgt := 125) (by decide) (zI_lt (by omega)) (fun hc87 => ?_) (fun hc87 => ?_)
                    · have hpu : ((((wo_as S r a ++ wo_ds S a d9) ++ [100 * a + 10 * (a + d9) + 1]) ++ [100 * a + 10 * (a + d9) + 2]) ++ [100 * a + 10 * (a + d9) + 3]) = wo_as S r a ++ wo_ds S a (d9 + 1) := by rw [wo_ds_step, wo_three, if_pos (by omega)]; simp
                      rw [hpu]
                      refine hv_iinc C dX5_init_125 2 rfl (v := zI (((a + (d9 + 1) : Nat) : Int))) ((zI_add _ _).trans (zI_c (by omega))) (by decide) (lw := [(6, .int (zI (((a + (d9 + 1) : Nat) : Int)))), (7, .int (zI (4))), (4, .int (zI ((((wo_as S r a ++ wo_ds S a (d9 + 1))).length : Int)))), (5, .int (zI ((a : Int)))), (0, .ref o9), (3, .int (zI ((r : Int))))]) rfl ?_
                      refine hv_goto C dX5_init_128 (tgt := 63) (by decide) ?_
                      refine hv_lsub [0, 3, 2, 4, 5] (lv' := [(6, .int (zI (((a + (d9 + 1) : Nat) : Int)))), (5, .int (zI ((a : Int)))), (4, .int (zI ((((wo_as S r a ++ wo_ds S a (d9 + 1))).length : Int)))), (0, .ref o9), (3, .int (zI ((r : Int))))]) rfl ?_
                      exact ih2 (n2 - 1) (d9 + 1) (by omega) (by omega)
                    · exfalso; omega
