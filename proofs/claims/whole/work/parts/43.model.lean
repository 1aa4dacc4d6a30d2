/-! the model: leaf methods -/
theorem sp_upd (g : Nat → Int) (k : Nat) (z : Int) : upd (fun i => zI (g i)) k (zI z) = fun i => zI (sp_set g k z i) := by
  funext i
  unfold upd sp_set
  by_cases q : i = k
  · rw [if_pos q, if_pos q]
  · rw [if_neg q, if_neg q]
def mz_c (f g : Nat → Int) (a b : Nat) : Nat → Nat → Int
  | 0 => f
  | k + 1 => sp_set (mz_c f g a b k) (b + k) (g (a + k))
theorem mz_c_eq (f g : Nat → Int) (a b : Nat) : ∀ k i, mz_c f g a b k i = if b ≤ i ∧ i < b + k then g (a + (i - b)) else f i
  | 0, i => by rw [if_neg (by omega)]; rfl
  | k + 1, i => by
    rw [mz_c, sp_set]
    by_cases q : i = b + k
    · rw [if_pos q, if_pos (by omega), q]
      congr 1
      omega
    · rw [if_neg q, mz_c_eq f g a b k i]
      by_cases q2 : b ≤ i ∧ i < b + k
      · rw [if_pos q2, if_pos (by omega)]
      · rw [if_neg q2, if_neg (by omega)]
def mz_0 (g : Nat → Int) : Nat → Nat → Int
  | 0 => g
  | k + 1 => sp_set (mz_0 g k) k 0
def mz_b (h : Nat) : Nat → Nat
  | 0 => 0
  | k + 1 => mz_b h k + (if sp_dg h k = 0 then 1 else 0)
theorem mz_b_le (h : Nat) : ∀ k, mz_b h k ≤ k
  | 0 => Nat.le_refl _
  | k + 1 => by
    have := mz_b_le h k
    rw [mz_b]
    split <;> omega
def mz_s (h : Nat) : Nat → Nat
  | 0 => 0
  | k + 1 => mz_s h k + sp_dg h k
theorem mz_s_le (h : Nat) : ∀ k, mz_s h k ≤ 3 * k
  | 0 => Nat.le_refl _
  | k + 1 => by
    have := mz_s_le h k
    have := sp_dg_lt h k
    rw [mz_s]
    omega
theorem mz_s6 (h : Nat) : mz_s h 6 = sp_lv h := by
  show 0 + sp_dg h 0 + sp_dg h 1 + sp_dg h 2 + sp_dg h 3 + sp_dg h 4 + sp_dg h 5 = _
  unfold sp_lv
  omega

set_option maxHeartbeats 4000000 in
set_option maxRecDepth 100000 in
theorem k_X9_in (l : Launch) (D : va_G) (dA : Nat → ClassId) (v : Int) (hv : -9223372036854775808 ≤ v ∧ v < 9223372036854775808) (a : Int) (ha : -9223372036854775808 ≤ a ∧ a < 9223372036854775808) (b : Int) (hb : -9223372036854775808 ≤ b ∧ b < 9223372036854775808) : hv_Ct l yX9_in (hw_W yX9_in cX9_in 6 (some .boolean)) 0 D dA [.long (zL v), .long (zL a), .long (zL b)] ([]) 0 0 (S := Unit) (fun _ => some (.int (zI (zB (decide (a ≤ v ∧ v ≤ b)))))) (fun _ => True) (fun _ => []) := by
  refine hv_of (cc := cX9_in) (maxL := 6) (ret := (some .boolean)) (own := RX9) rfl (by decide) rfl (Nat.le_of_ble_eq_true rfl) ?_
  intro p e s m args below meth c C M
  refine hv_lveq (lv' := [(0, .long (zL v)), (2, .long (zL a)), (4, .long (zL b))]) rfl ?_
  refine hv_lload_n C dX9_in_0 0 rfl ?_
  refine hv_lload_n C dX9_in_1 1 rfl ?_
  refine hv_lcmp C dX9_in_2 (z := (lg_cmp (zL v) (zL a))) (by rfl) ?_
  refine hv_if_lt C dX9_in_3 (tgt := 17) (by decide) (zL_lt (by omega)) (fun hc3 => ?_) (fun hc3 => ?_)
  · refine hv_iconst C dX9_in_17 (v := zI (0)) rfl ?_
    exact hv_iret C M dX9_in_18 rfl zB_n2 () trivial (hv_rv (zB_F (by omega))) [] (List.Perm.of_eq (by first | rfl | exact (List.append_nil _).symm)) (Nat.le_refl _) (Nat.le_refl _)
  · refine hv_lload_n C dX9_in_6 0 rfl ?_
    refine hv_lload C dX9_in_7 2 rfl ?_
    refine hv_lcmp C dX9_in_9 (z := (lg_cmp (zL v) (zL b))) (by rfl) ?_
    refine hv_if_gt C dX9_in_10 (tgt := 17) (by decide) (zL_gt (by omega)) (fun hc10 => ?_) (fun hc10 => ?_)
    · refine hv_iconst C dX9_in_17 (v := zI (0)) rfl ?_
      exact hv_iret C M dX9_in_18 rfl zB_n2 () trivial (hv_rv (zB_F (by omega))) [] (List.Perm.of_eq (by first | rfl | exact (List.append_nil _).symm)) (Nat.le_refl _) (Nat.le_refl _)
    · refine hv_iconst C dX9_in_13 (v := zI (1)) rfl ?_
      refine hv_goto C dX9_in_14 (tgt := 18) (by decide) ?_
      exact hv_iret C M dX9_in_18 rfl zB_n1 () trivial (hv_rv (zB_T (by omega))) [] (List.Perm.of_eq (by first | rfl | exact (List.append_nil _).symm)) (Nat.le_refl _) (Nat.le_refl _)

set_option maxHeartbeats 4000000 in
set_option maxRecDepth 100000 in
theorem k_X9_copyState (l : Launch) (D : va_G) (dA : Nat → ClassId) (a0 b0 na nb : Nat) (g f : Nat → Int) {za zb : Int} (a b : Nat) (ea : za = (a : Int)) (eb : zb = (b : Int)) (ha : a + 12 ≤ na) (hb : b + 12 ≤ nb) (hna : na < 1000) (hnb : nb < 1000) : hv_Ct l yX9_copyState (hw_W yX9_copyState cX9_copyState 5 none) 0 D dA [.ref a0, .int (zI (za)), .ref b0, .int (zI (zb))] ([(a0, .inl (dA 0, na, .inl (fun i => zI (g i)))), (b0, .inl (dA 0, nb, .inl (fun i => zI (f i))))]) 0 0 (S := Unit) (fun _ => none) (fun _ => True) (fun _ => [(a0, .inl (dA 0, na, .inl (fun i => zI (g i)))), (b0, .inl (dA 0, nb, .inl (fun i => zI (mz_c f g a b 12 i))))]) := by
  subst ea
  subst eb
  refine hv_of (cc := cX9_copyState) (maxL := 5) (ret := none) (own := RX9) rfl (by decide) rfl (Nat.le_of_ble_eq_true rfl) ?_
  intro p e s m args below meth c C M
  refine hv_lveq (lv' := [(0, .ref a0), (1, .int (zI ((a : Int)))), (2, .ref b0), (3, .int (zI ((b : Int))))]) rfl ?_
  refine hv_iconst C dX9_copyState_0 (v := zI (0)) rfl ?_
  refine hv_istore C dX9_copyState_1 (lw := [(4, .int (zI (0))), (0, .ref a0), (1, .int (zI ((a : Int)))), (2, .ref b0), (3, .int (zI ((b : Int))))]) (by decide) rfl ?_
  refine hv_loop (σ := Nat) (fun n9 x => x + n9 = 12) (fun x => [(a0, .inl (dA 0, na, .inl (fun i => zI (g i)))), (b0, .inl (dA 0, nb, .inl (fun i => zI (mz_c f g a b x i))))]) (fun x => [(4, .int (zI ((x : Int)))), (0, .ref a0), (1, .int (zI ((a : Int)))), (2, .ref b0), (3, .int (zI ((b : Int))))]) (fun x => []) (fun _ => 0) (fun _ => 0) (12) (0) (Nat.zero_add _) (⟨rfl, rfl, rfl, rfl, rfl⟩) (fun n9 x hI ih => ?_)
  obtain ⟨i, rfl⟩ : ∃ i, i = x := ⟨x, rfl⟩
  refine hv_iload C dX9_copyState_3 0 rfl ?_
  refine hv_bipush C dX9_copyState_5 (v := zI (12)) (by decide +kernel) ?_
  refine hv_icmp_ge C dX9_copyState_7 (tgt := 28) (by decide) (zI_le (by omega)) (fun hc7 => ?_) (fun hc7 => ?_)
  · obtain rfl : i = 12 := (by omega)
    exact hv_vret C M dX9_copyState_28 rfl () trivial rfl [] (List.Perm.of_eq (by first | rfl | exact (List.append_nil _).symm)) (Nat.le_refl _) (Nat.le_refl _)
  · refine hv_aload_n C dX9_copyState_10 3 rfl ?_
    refine hv_iload_n C dX9_copyState_11 4 rfl ?_
    refine hv_iload C dX9_copyState_12 0 rfl ?_
    refine hv_iadd C dX9_copyState_14 (zI_add _ _) ?_
    refine hv_aload_n C dX9_copyState_15 1 rfl ?_
    refine hv_iload_n C dX9_copyState_16 2 rfl ?_
    refine hv_iload C dX9_copyState_17 0 rfl ?_
    refine hv_iadd C dX9_copyState_19 (zI_add _ _) ?_
    refine hv_iald C dX9_copyState_20 0 rfl (a + i) (zI_ix (by omega)) (by omega) (by omega) (v := (zI (g (a + i)))) rfl ?_
    refine hv_iast C dX9_copyState_21 1 rfl (b + i) (zI_ix (by omega)) (by omega) (by omega) ?_
    refine hv_weq (ws' := [(a0, .inl (dA 0, na, .inl (fun i => zI (g i)))), (b0, .inl (dA 0, nb, .inl (fun j => zI (mz_c f g a b (i + 1) j))))]) (by rw [sp_upd]; rfl) ?_
    refine hv_iinc C dX9_copyState_22 0 rfl (v := zI (((i + 1 : Nat) : Int))) ((zI_add _ _).trans (zI_c (by omega))) (by decide) (lw := [(4, .int (zI (((i + 1 : Nat) : Int)))), (0, .ref a0), (1, .int (zI ((a : Int)))), (2, .ref b0), (3, .int (zI ((b : Int))))]) rfl ?_
    refine hv_goto C dX9_copyState_25 (tgt := 3) (by decide) ?_
    refine hv_lsub [0, 1, 2, 3, 4] (lv' := [(4, .int (zI (((i + 1 : Nat) : Int)))), (0, .ref a0), (1, .int (zI ((a : Int)))), (2, .ref b0), (3, .int (zI ((b : Int))))]) rfl ?_
    obtain ⟨k, rfl⟩ : ∃ k, n9 = k + 1 := ⟨n9 - 1, by omega⟩
    exact ih k (i + 1) (by omega) (by omega)

set_option maxHeartbeats 4000000 in
set_option maxRecDepth 100000 in
theorem k_X9_isStem (l : Launch) (D : va_G) (dA : Nat → ClassId) (r9 : Nat) (g : Nat → Int) (hg0 : 0 ≤ g 0 ∧ g 0 < 1000) (z : Int) (hz : -2147483648 ≤ z ∧ z < 2147483648) : hv_Ct l yX9_isStem (hw_W yX9_isStem cX9_isStem 2 (some .boolean)) 1 D dA [.ref r9, .int (zI (z))] ([(r9, .inl (dA 0, 12, .inl (fun i => zI (g i))))]) 0 0 (S := Unit) (fun _ => some (.int (zI (zB (decide (0 ≤ z ∧ z < g 0)))))) (fun _ => True) (fun _ => [(r9, .inl (dA 0, 12, .inl (fun i => zI (g i))))]) := by
  refine hv_of (cc := cX9_isStem) (maxL := 2) (ret := (some .boolean)) (own := RX9) rfl (by decide) rfl (Nat.le_of_ble_eq_true rfl) ?_
  intro p e s m args below meth c C M
  refine hv_lveq (lv' := [(0, .ref r9), (1, .int (zI (z)))]) rfl ?_
  refine hv_iload_n C dX9_isStem_0 1 rfl ?_
  refine hv_i2l C dX9_isStem_1 (v := (zL (z))) (by exact zL_i (by omega)) ?_
  refine hv_lconst C dX9_isStem_2 (v := 0) rfl ?_
  refine hv_aload_n C dX9_isStem_3 0 rfl ?_
  refine hv_iconst C dX9_isStem_4 (v := zI (0)) rfl ?_
  refine hv_iald C dX9_isStem_5 0 rfl (0) (rfl) (by omega) (by omega) (v := (zI (g 0))) rfl ?_
  refine hv_iconst C dX9_isStem_6 (v := zI (1)) rfl ?_
  refine hv_isub C dX9_isStem_7 (zI_sub _ _) ?_
  refine hv_i2l C dX9_isStem_8 (v := (zL ((g 0) - (1)))) (by exact zL_i (by omega)) ?_
  refine hv_eqst (st' := [.long (zL ((g 0) - (1))), .long (zL (0)), .long (zL (z))]) (by rfl) ?_
  refine hv_callS (As := [.long (zL (z)), .long (zL (0)), .long (zL ((g 0) - (1)))]) (rest := []) (wc := []) (wr := [(r9, .inl (dA 0, 12, .inl (fun i => zI (g i))))]) C (k_X9_in l D dA (z) (by omega) (0) (by omega) ((g 0) - (1)) (by omega)) (va_cwS 3 C.1.2.2.2.2 (hw_S tw_m_RX9_43 tw_t_X9_in tw_n_RX9 tw_k_X9_in) rfl rfl rfl (by decide +kernel) ⟨Nat.le_of_ble_eq_true rfl, Nat.le_of_ble_eq_true rfl⟩) (hv_pm [] rfl) rfl rfl (Nat.le_of_ble_eq_true rfl) dX9_isStem_9 ⟨Nat.le_of_ble_eq_true rfl, Nat.le_of_ble_eq_true rfl⟩ (fun _ _ => ?_)
  refine hv_eqst (st' := [.int (zI (zB (decide (0 ≤ z ∧ z ≤ (g 0) - (1)))))]) rfl ?_
  refine hv_weq (ws' := [(r9, .inl (dA 0, 12, .inl (fun i => zI (g i))))]) (rfl) ?_
  exact hv_iret C M dX9_isStem_12 rfl (zB_n _) () trivial (hv_rv (congrArg zB (decide_eq_decide.mpr (by omega)))) [] (List.Perm.of_eq (by first | rfl | exact (List.append_nil _).symm)) (Nat.le_refl _) (Nat.le_refl _)

set_option maxHeartbeats 4000000 in
set_option maxRecDepth 100000 in
theorem k_X9_all (l : Launch) (D : va_G) (dA : Nat → ClassId) {z : Int} (n : Nat) (e : z = (n : Int)) (hn : n < 8) : hv_Ct l yX9_all (hw_W yX9_all cX9_all 1 (some .int)) 0 D dA [.int (zI (z))] ([]) 0 0 (S := Unit) (fun _ => some (.int (zI ((4 ^ n : Nat) : Int)))) (fun _ => True) (fun _ => []) := by
  subst e
  refine hv_of (cc := cX9_all) (maxL := 1) (ret := (some .int)) (own := RX9) rfl (by decide) rfl (Nat.le_of_ble_eq_true rfl) ?_
  intro p e s m args below meth c C M
  refine hv_lveq (lv' := [(0, .int (zI ((n : Int))))]) rfl ?_
  refine hv_iconst C dX9_all_0 (v := zI (1)) rfl ?_
  refine hv_iconst C dX9_all_1 (v := zI (2)) rfl ?_
  refine hv_iload_n C dX9_all_2 0 rfl ?_
  refine hv_imul C dX9_all_3 (zI_mul _ _) ?_
  refine hv_ishl C dX9_all_4 rfl ?_
  refine hv_topi (y := zI (((4 ^ n : Nat) : Int))) (by exact sp_sh1 n hn) ?_
  exact hv_iret C M dX9_all_5 rfl rfl () trivial (hv_rv (by omega)) [] (List.Perm.of_eq (by first | rfl | exact (List.append_nil _).symm)) (Nat.le_refl _) (Nat.le_refl _)

set_option maxHeartbeats 4000000 in
set_option maxRecDepth 100000 in
theorem k_X9_leavesOf (l : Launch) (D : va_G) (dA : Nat → ClassId) {zh zi : Int} (h i : Nat) (eh : zh = (h : Int)) (ei : zi = (i : Int)) (hh : h < 2 ^ 31) (hi : i < 8) : hv_Ct l yX9_leavesOf (hw_W yX9_leavesOf cX9_leavesOf 2 (some .int)) 0 D dA [.int (zI (zh)), .int (zI (zi))] ([]) 0 0 (S := Unit) (fun _ => some (.int (zI (sp_dg h i : Int)))) (fun _ => True) (fun _ => []) := by
  subst eh
  subst ei
  refine hv_of (cc := cX9_leavesOf) (maxL := 2) (ret := (some .int)) (own := RX9) rfl (by decide) rfl (Nat.le_of_ble_eq_true rfl) ?_
  intro p e s m args below meth c C M
  refine hv_lveq (lv' := [(0, .int (zI ((h : Int)))), (1, .int (zI ((i : Int))))]) rfl ?_
  refine hv_iload_n C dX9_leavesOf_0 0 rfl ?_
  refine hv_iconst C dX9_leavesOf_1 (v := zI (2)) rfl ?_
  refine hv_iload_n C dX9_leavesOf_2 1 rfl ?_
  refine hv_imul C dX9_leavesOf_3 (zI_mul _ _) ?_
  refine hv_ishr C dX9_leavesOf_4 rfl ?_
  refine hv_iconst C dX9_leavesOf_5 (v := zI (3)) rfl ?_
  refine hv_iand C dX9_leavesOf_6 rfl ?_
  refine hv_topi (y := zI ((sp_dg h i : Int))) (by exact sp_leaf hh hi) ?_
  exact hv_iret C M dX9_leavesOf_7 rfl rfl () trivial (hv_rv (by omega)) [] (List.Perm.of_eq (by first | rfl | exact (List.append_nil _).symm)) (Nat.le_refl _) (Nat.le_refl _)

set_option maxHeartbeats 4000000 in
set_option maxRecDepth 100000 in
theorem k_X9_count (l : Launch) (D : va_G) (dA : Nat → ClassId) {zh : Int} (h : Nat) (eh : zh = (h : Int)) (hh : h < 4096) : hv_Ct l yX9_count (hw_W yX9_count cX9_count 3 (some .int)) 1 D dA [.int (zI (zh))] ([]) 0 0 (S := Unit) (fun _ => some (.int (zI (sp_lv h : Int)))) (fun _ => True) (fun _ => []) := by
  subst eh
  refine hv_of (cc := cX9_count) (maxL := 3) (ret := (some .int)) (own := RX9) rfl (by decide) rfl (Nat.le_of_ble_eq_true rfl) ?_
  intro p e s m args below meth c C M
  refine hv_lveq (lv' := [(0, .int (zI ((h : Int))))]) rfl ?_
  refine hv_iconst C dX9_count_0 (v := zI (0)) rfl ?_
  refine hv_istore_n C dX9_count_1 (lw := [(1, .int (zI (0))), (0, .int (zI ((h : Int))))]) (by decide) rfl ?_
  refine hv_iconst C dX9_count_2 (v := zI (0)) rfl ?_
  refine hv_istore_n C dX9_count_3 (lw := [(2, .int (zI (0))), (1, .int (zI (0))), (0, .int (zI ((h : Int))))]) (by decide) rfl ?_
  refine hv_loop (σ := Nat) (fun n9 x => x + n9 = 6) (fun x => []) (fun x => [(2, .int (zI ((x : Int)))), (1, .int (zI ((mz_s h x : Int)))), (0, .int (zI ((h : Int))))]) (fun x => []) (fun _ => 0) (fun _ => 0) (6) (0) (Nat.zero_add _) (⟨rfl, rfl, rfl, rfl, rfl⟩) (fun n9 x hI ih => ?_)
  obtain ⟨i, rfl⟩ : ∃ i, i = x := ⟨x, rfl⟩
  have hsl := mz_s_le h i
  refine hv_iload_n C dX9_count_4 0 rfl ?_
  refine hv_bipush C dX9_count_5 (v := zI (6)) (by decide +kernel) ?_
  refine hv_icmp_ge C dX9_count_7 (tgt := 24) (by decide) (zI_le (by omega)) (fun hc7 => ?_) (fun hc7 => ?_)
  · refine hv_iload_n C dX9_count_24 1 rfl ?_
    exact hv_iret C M dX9_count_25 rfl rfl () trivial (hv_rv (by obtain rfl : i = 6 := (by omega); rw [mz_s6])) [] (List.Perm.of_eq (by first | rfl | exact (List.append_nil _).symm)) (Nat.le_refl _) (Nat.le_refl _)
  · refine hv_iload_n C dX9_count_10 1 rfl ?_
    refine hv_iload_n C dX9_count_11 2 rfl ?_
    refine hv_iload_n C dX9_count_12 0 rfl ?_
    refine hv_callS (As := [.int (zI ((h : Int))), .int (zI ((i : Int)))]) (rest := [.int (zI ((mz_s h i : Int)))]) (wc := []) (wr := []) C (k_X9_leavesOf l D dA (h) (i) (by omega) (by omega) (by omega) (by omega)) (va_cwS 2 C.1.2.2.2.2 (hw_S tw_m_RX9_47 tw_t_X9_leavesOf tw_n_RX9 tw_k_X9_leavesOf) rfl rfl rfl (by decide +kernel) ⟨Nat.le_of_ble_eq_true rfl, Nat.le_of_ble_eq_true rfl⟩) (hv_pm [] rfl) rfl rfl (Nat.le_of_ble_eq_true rfl) dX9_count_13 ⟨Nat.le_of_ble_eq_true rfl, Nat.le_of_ble_eq_true rfl⟩ (fun _ _ => ?_)
    have hdl13 := sp_dg_lt (h) (i)
    refine hv_eqst (st' := [.int (zI ((sp_dg (h) (i) : Int))), .int (zI ((mz_s h i : Int)))]) rfl ?_
    refine hv_weq (ws' := []) (rfl) ?_
    refine hv_iadd C dX9_count_16 (z := zI ((mz_s h (i + 1) : Int))) ((zI_add _ _).trans (zI_c (by rw [mz_s]; omega))) ?_
    refine hv_istore_n C dX9_count_17 (lw := [(1, .int (zI ((mz_s h (i + 1) : Int)))), (2, .int (zI ((i : Int)))), (0, .int (zI ((h : Int))))]) (by decide) rfl ?_
    refine hv_iinc C dX9_count_18 1 rfl (v := zI (((i + 1 : Nat) : Int))) ((zI_add _ _).trans (zI_c (by omega))) (by decide) (lw := [(2, .int (zI (((i + 1 : Nat) : Int)))), (1, .int (zI ((mz_s h (i + 1) : Int)))), (0, .int (zI ((h : Int))))]) rfl ?_
    refine hv_goto C dX9_count_21 (tgt := 4) (by decide) ?_
    refine hv_lsub [0, 1, 2] (lv' := [(2, .int (zI (((i + 1 : Nat) : Int)))), (1, .int (zI ((mz_s h (i + 1) : Int)))), (0, .int (zI ((h : Int))))]) rfl ?_
    obtain ⟨k, rfl⟩ : ∃ k, n9 = k + 1 := ⟨n9 - 1, by omega⟩
    exact ih k (i + 1) (by omega) (by omega)

set_option maxHeartbeats 4000000 in
set_option maxRecDepth 100000 in
theorem k_X9_bare (l : Launch) (D : va_G) (dA : Nat → ClassId) (r9 : Nat) (g : Nat → Int) (n : Nat) (e0 : g 0 = (n : Int)) (hn : n ≤ 6) {zh : Int} (h : Nat) (eh : zh = (h : Int)) (hh : h < 4096) : hv_Ct l yX9_bare (hw_W yX9_bare cX9_bare 4 (some .int)) 1 D dA [.ref r9, .int (zI (zh))] ([(r9, .inl (dA 0, 12, .inl (fun i => zI (g i))))]) 0 0 (S := Unit) (fun _ => some (.int (zI (mz_b h n : Int)))) (fun _ => True) (fun _ => [(r9, .inl (dA 0, 12, .inl (fun i => zI (g i))))]) := by
  subst eh
  refine hv_of (cc := cX9_bare) (maxL := 4) (ret := (some .int)) (own := RX9) rfl (by decide) rfl (Nat.le_of_ble_eq_true rfl) ?_
  intro p e s m args below meth c C M
  refine hv_lveq (lv' := [(0, .ref r9), (1, .int (zI ((h : Int))))]) rfl ?_
  refine hv_iconst C dX9_bare_0 (v := zI (0)) rfl ?_
  refine hv_istore_n C dX9_bare_1 (lw := [(2, .int (zI (0))), (0, .ref r9), (1, .int (zI ((h : Int))))]) (by decide) rfl ?_
  refine hv_iconst C dX9_bare_2 (v := zI (0)) rfl ?_
  refine hv_istore_n C dX9_bare_3 (lw := [(3, .int (zI (0))), (2, .int (zI (0))), (0, .ref r9), (1, .int (zI ((h : Int))))]) (by decide) rfl ?_
  refine hv_loop (σ := Nat) (fun n9 x => x + n9 = n) (fun x => [(r9, .inl (dA 0, 12, .inl (fun i => zI (g i))))]) (fun x => [(3, .int (zI ((x : Int)))), (2, .int (zI ((mz_b h x : Int)))), (0, .ref r9), (1, .int (zI ((h : Int))))]) (fun x => []) (fun _ => 0) (fun _ => 0) (n) (0) (Nat.zero_add _) (⟨rfl, rfl, rfl, rfl, rfl⟩) (fun n9 x hI ih => ?_)
  obtain ⟨i, rfl⟩ : ∃ i, i = x := ⟨x, rfl⟩
  have hbl := mz_b_le h i
  refine hv_iload_n C dX9_bare_4 0 rfl ?_
  refine hv_aload_n C dX9_bare_5 2 rfl ?_
  refine hv_iconst C dX9_bare_6 (v := zI (0)) rfl ?_
  refine hv_iald C dX9_bare_7 0 rfl (0) (rfl) (by omega) (by omega) (v := (zI (g 0))) rfl ?_
  refine hv_icmp_ge C dX9_bare_8 (tgt := 33) (by decide) (zI_le (by omega)) (fun hc8 => ?_) (fun hc8 => ?_)
  · refine hv_iload_n C dX9_bare_33 1 rfl ?_
    exact hv_iret C M dX9_bare_34 rfl rfl () trivial (hv_rv (by rw [show i = n by omega])) [] (List.Perm.of_eq (by first | rfl | exact (List.append_nil _).symm)) (Nat.le_refl _) (Nat.le_refl _)
  · refine hv_iload_n C dX9_bare_11 1 rfl ?_
    refine hv_iload_n C dX9_bare_12 3 rfl ?_
    refine hv_iload_n C dX9_bare_13 0 rfl ?_
    refine hv_callS (As := [.int (zI ((h : Int))), .int (zI ((i : Int)))]) (rest := [.int (zI ((mz_b h i : Int)))]) (wc := []) (wr := [(r9, .inl (dA 0, 12, .inl (fun i => zI (g i))))]) C (k_X9_leavesOf l D dA (h) (i) (by omega) (by omega) (by omega) (by omega)) (va_cwS 2 C.1.2.2.2.2 (hw_S tw_m_RX9_47 tw_t_X9_leavesOf tw_n_RX9 tw_k_X9_leavesOf) rfl rfl rfl (by decide +kernel) ⟨Nat.le_of_ble_eq_true rfl, Nat.le_of_ble_eq_true rfl⟩) (hv_pm [] rfl) rfl rfl (Nat.le_of_ble_eq_true rfl) dX9_bare_14 ⟨Nat.le_of_ble_eq_true rfl, Nat.le_of_ble_eq_true rfl⟩ (fun _ _ => ?_)
    have hdl14 := sp_dg_lt (h) (i)
    refine hv_eqst (st' := [.int (zI ((sp_dg (h) (i) : Int))), .int (zI ((mz_b h i : Int)))]) rfl ?_
    refine hv_weq (ws' := [(r9, .inl (dA 0, 12, .inl (fun i => zI (g i))))]) (rfl) ?_
    refine hv_if_ne C dX9_bare_17 (tgt := 24) (by decide) (zI_ne0 (by omega)) (fun hc17 => ?_) (fun hc17 => ?_)
    · refine hv_iconst C dX9_bare_24 (v := zI (0)) rfl ?_
      refine hv_iadd C dX9_bare_25 (z := zI ((mz_b h (i + 1) : Int))) ((zI_add _ _).trans (zI_c (by rw [mz_b]; rw [if_neg (by omega)]; omega))) ?_
      refine hv_istore_n C dX9_bare_26 (lw := [(2, .int (zI ((mz_b h (i + 1) : Int)))), (3, .int (zI ((i : Int)))), (0, .ref r9), (1, .int (zI ((h : Int))))]) (by decide) rfl ?_
      refine hv_iinc C dX9_bare_27 1 rfl (v := zI (((i + 1 : Nat) : Int))) ((zI_add _ _).trans (zI_c (by omega))) (by decide) (lw := [(3, .int (zI (((i + 1 : Nat) : Int)))), (2, .int (zI ((mz_b h (i + 1) : Int)))), (0, .ref r9), (1, .int (zI ((h : Int))))]) rfl ?_
      refine hv_goto C dX9_bare_30 (tgt := 4) (by decide) ?_
      refine hv_lsub [0, 1, 2, 3] (lv' := [(3, .int (zI (((i + 1 : Nat) : Int)))), (2, .int (zI ((mz_b h (i + 1) : Int)))), (0, .ref r9), (1, .int (zI ((h : Int))))]) rfl ?_
      obtain ⟨k, rfl⟩ : ∃ k, n9 = k + 1 := ⟨n9 - 1, by omega⟩
      exact ih k (i + 1) (by omega) (by omega)
    · refine hv_iconst C dX9_bare_20 (v := zI (1)) rfl ?_
      refine hv_goto C dX9_bare_21 (tgt := 25) (by decide) ?_
      refine hv_iadd C dX9_bare_25 (z := zI ((mz_b h (i + 1) : Int))) ((zI_add _ _).trans (zI_c (by rw [mz_b]; rw [if_pos (by omega)]; omega))) ?_
      refine hv_istore_n C dX9_bare_26 (lw := [(2, .int (zI ((mz_b h (i + 1) : Int)))), (3, .int (zI ((i : Int)))), (0, .ref r9), (1, .int (zI ((h : Int))))]) (by decide) rfl ?_
      refine hv_iinc C dX9_bare_27 1 rfl (v := zI (((i + 1 : Nat) : Int))) ((zI_add _ _).trans (zI_c (by omega))) (by decide) (lw := [(3, .int (zI (((i + 1 : Nat) : Int)))), (2, .int (zI ((mz_b h (i + 1) : Int)))), (0, .ref r9), (1, .int (zI ((h : Int))))]) rfl ?_
      refine hv_goto C dX9_bare_30 (tgt := 4) (by decide) ?_
      refine hv_lsub [0, 1, 2, 3] (lv' := [(3, .int (zI (((i + 1 : Nat) : Int)))), (2, .int (zI ((mz_b h (i + 1) : Int)))), (0, .ref r9), (1, .int (zI ((h : Int))))]) rfl ?_
      obtain ⟨k, rfl⟩ : ∃ k, n9 = k + 1 := ⟨n9 - 1, by omega⟩
      exact ih k (i + 1) (by omega) (by omega)

set_option maxHeartbeats 4000000 in
set_option maxRecDepth 100000 in
theorem k_X9_isClip (l : Launch) (D : va_G) (dA : Nat → ClassId) (r9 : Nat) (g : Nat → Int) (hg5 : 0 ≤ g 5 ∧ g 5 < 1000) (a b k : Int) (ha : 0 ≤ a ∧ a < 1000) (hb : 0 ≤ b ∧ b < 1000) (hk : -2147483648 ≤ k ∧ k < 2147483648) : hv_Ct l yX9_isClip (hw_W yX9_isClip cX9_isClip 4 (some .boolean)) 1 D dA [.ref r9, .int (zI (a)), .int (zI (b)), .int (zI (k))] ([(r9, .inl (dA 0, 12, .inl (fun i => zI (g i))))]) 0 0 (S := Unit) (fun _ => some (.int (zI (zB (decide (1 ≤ k ∧ k ≤ 3 ∧ a ≤ b ∧ b - a < g 5)))))) (fun _ => True) (fun _ => [(r9, .inl (dA 0, 12, .inl (fun i => zI (g i))))]) := by
  refine hv_of (cc := cX9_isClip) (maxL := 4) (ret := (some .boolean)) (own := RX9) rfl (by decide) rfl (Nat.le_of_ble_eq_true rfl) ?_
  intro p e s m args below meth c C M
  refine hv_lveq (lv' := [(0, .ref r9), (1, .int (zI (a))), (2, .int (zI (b))), (3, .int (zI (k)))]) rfl ?_
  refine hv_iload_n C dX9_isClip_0 2 rfl ?_
  refine hv_iload_n C dX9_isClip_1 1 rfl ?_
  refine hv_icmp_lt C dX9_isClip_2 (tgt := 30) (by decide) (zI_lt (by omega)) (fun hc2 => ?_) (fun hc2 => ?_)
  · refine hv_iconst C dX9_isClip_30 (v := zI (0)) rfl ?_
    exact hv_iret C M dX9_isClip_31 rfl zB_n2 () trivial (hv_rv (zB_F (by omega))) [] (List.Perm.of_eq (by first | rfl | exact (List.append_nil _).symm)) (Nat.le_refl _) (Nat.le_refl _)
  · refine hv_iload_n C dX9_isClip_5 2 rfl ?_
    refine hv_iload_n C dX9_isClip_6 1 rfl ?_
    refine hv_isub C dX9_isClip_7 (zI_sub _ _) ?_
    refine hv_aload_n C dX9_isClip_8 0 rfl ?_
    refine hv_iconst C dX9_isClip_9 (v := zI (5)) rfl ?_
    refine hv_iald C dX9_isClip_10 0 rfl (5) (rfl) (by omega) (by omega) (v := (zI (g 5))) rfl ?_
    refine hv_icmp_ge C dX9_isClip_11 (tgt := 30) (by decide) (zI_le (by omega)) (fun hc11 => ?_) (fun hc11 => ?_)
    · refine hv_iconst C dX9_isClip_30 (v := zI (0)) rfl ?_
      exact hv_iret C M dX9_isClip_31 rfl zB_n2 () trivial (hv_rv (zB_F (by omega))) [] (List.Perm.of_eq (by first | rfl | exact (List.append_nil _).symm)) (Nat.le_refl _) (Nat.le_refl _)
    · refine hv_iload_n C dX9_isClip_14 3 rfl ?_
      refine hv_i2l C dX9_isClip_15 (v := (zL (k))) (by exact zL_i (by omega)) ?_
      refine hv_lconst C dX9_isClip_16 (v := 1) rfl ?_
      refine hv_ldc2 C dX9_isClip_17 (hw_c tw_o_RX9_51) ?_
      refine hv_eqst (st' := [.long (zL (3)), .long (zL (1)), .long (zL (k))]) (by rfl) ?_
      refine hv_callS (As := [.long (zL (k)), .long (zL (1)), .long (zL (3))]) (rest := []) (wc := []) (wr := [(r9, .inl (dA 0, 12, .inl (fun i => zI (g i))))]) C (k_X9_in l D dA (k) (by omega) (1) (by omega) (3) (by omega)) (va_cwS 3 C.1.2.2.2.2 (hw_S tw_m_RX9_43 tw_t_X9_in tw_n_RX9 tw_k_X9_in) rfl rfl rfl (by decide +kernel) ⟨Nat.le_of_ble_eq_true rfl, Nat.le_of_ble_eq_true rfl⟩) (hv_pm [] rfl) rfl rfl (Nat.le_of_ble_eq_true rfl) dX9_isClip_20 ⟨Nat.le_of_ble_eq_true rfl, Nat.le_of_ble_eq_true rfl⟩ (fun _ _ => ?_)
      refine hv_eqst (st' := [.int (zI (zB (decide (1 ≤ k ∧ k ≤ 3))))]) rfl ?_
      refine hv_weq (ws' := [(r9, .inl (dA 0, 12, .inl (fun i => zI (g i))))]) (rfl) ?_
      refine hv_if_eq C dX9_isClip_23 (tgt := 30) (by decide) zB_0 (fun hc23 => ?_) (fun hc23 => ?_)
      · refine hv_iconst C dX9_isClip_30 (v := zI (0)) rfl ?_
        exact hv_iret C M dX9_isClip_31 rfl zB_n2 () trivial (hv_rv (zB_F (by omega))) [] (List.Perm.of_eq (by first | rfl | exact (List.append_nil _).symm)) (Nat.le_refl _) (Nat.le_refl _)
      · refine hv_iconst C dX9_isClip_26 (v := zI (1)) rfl ?_
        refine hv_goto C dX9_isClip_27 (tgt := 31) (by decide) ?_
        exact hv_iret C M dX9_isClip_31 rfl zB_n1 () trivial (hv_rv (zB_T (by omega))) [] (List.Perm.of_eq (by first | rfl | exact (List.append_nil _).symm)) (Nat.le_refl _) (Nat.le_refl _)

theorem mz_cc {h a b k : Nat} (ha : a < 10) (hb : b < 10) (hk : k < 10) : sp_cc h (100 * a + 10 * b + k) = sp_cut h k a (b + 1 - a) := by
  unfold sp_cc
  rw [show (100 * a + 10 * b + k) % 10 = k by omega, show (100 * a + 10 * b + k) / 100 = a by omega, show (100 * a + 10 * b + k) / 10 % 10 = b by omega]

set_option maxHeartbeats 4000000 in
set_option maxRecDepth 100000 in
theorem k_X9_cut (l : Launch) (D : va_G) (dA : Nat → ClassId) {zh za zb zk : Int} (h a b k : Nat) (eh : zh = (h : Int)) (ea : za = (a : Int)) (eb : zb = (b : Int)) (ek : zk = (k : Int)) (hh : h < 4096) (hab : a ≤ b) (hb : b < 6) (hk : k < 4) : hv_Ct l yX9_cut (hw_W yX9_cut cX9_cut 7 (some .int)) 1 D dA [.int (zI (zh)), .int (zI (za)), .int (zI (zb)), .int (zI (zk))] ([]) 0 0 (S := Unit) (fun _ => some (.int (zI (sp_cc h (100 * a + 10 * b + k) : Int)))) (fun _ => True) (fun _ => []) := by
  subst eh
  subst ea
  subst eb
  subst ek
  refine hv_of (cc := cX9_cut) (maxL := 7) (ret := (some .int)) (own := RX9) rfl (by decide) rfl (Nat.le_of_ble_eq_true rfl) ?_
  intro p e s m args below meth c C M
  refine hv_lveq (lv' := [(0, .int (zI ((h : Int)))), (1, .int (zI ((a : Int)))), (2, .int (zI ((b : Int)))), (3, .int (zI ((k : Int))))]) rfl ?_
  refine hv_iload_n C dX9_cut_0 0 rfl ?_
  refine hv_istore C dX9_cut_1 (lw := [(4, .int (zI ((h : Int)))), (0, .int (zI ((h : Int)))), (1, .int (zI ((a : Int)))), (2, .int (zI ((b : Int)))), (3, .int (zI ((k : Int))))]) (by decide) rfl ?_
  refine hv_iload_n C dX9_cut_3 2 rfl ?_
  refine hv_istore C dX9_cut_4 (lw := [(5, .int (zI ((a : Int)))), (4, .int (zI ((h : Int)))), (0, .int (zI ((h : Int)))), (1, .int (zI ((a : Int)))), (2, .int (zI ((b : Int)))), (3, .int (zI ((k : Int))))]) (by decide) rfl ?_
  refine hv_loop (σ := Nat) (fun n x => x + n = b + 1 - a) (fun x => []) (fun x => [(5, .int (zI (((a + x : Nat) : Int)))), (4, .int (zI ((sp_cut h k a x : Int)))), (0, .int (zI ((h : Int)))), (1, .int (zI ((a : Int)))), (2, .int (zI ((b : Int)))), (3, .int (zI ((k : Int))))]) (fun x => []) (fun _ => 0) (fun _ => 0) (b + 1 - a) (0) (Nat.zero_add _) (⟨rfl, rfl, rfl, rfl, rfl⟩) (fun n x hI ih => ?_)
  refine hv_iload C dX9_cut_6 0 rfl ?_
  refine hv_iload_n C dX9_cut_8 4 rfl ?_
  refine hv_icmp_gt C dX9_cut_9 (tgt := 48) (by decide) (zI_lt (by omega)) (fun hc9 => ?_) (fun hc9 => ?_)
  · have hn0 : x = b + 1 - a := by omega
    refine hv_iload C dX9_cut_48 1 rfl ?_
    exact hv_iret C M dX9_cut_50 rfl rfl () trivial (hv_rv (by rw [hn0, mz_cc (by omega) (by omega) (by omega)])) [] (List.Perm.of_eq (by first | rfl | exact (List.append_nil _).symm)) (Nat.le_refl _) (Nat.le_refl _)
  · refine hv_iload_n C dX9_cut_12 2 rfl ?_
    refine hv_iload C dX9_cut_13 0 rfl ?_
    refine hv_callS (As := [.int (zI ((h : Int))), .int (zI (((a + x : Nat) : Int)))]) (rest := []) (wc := []) (wr := []) C (k_X9_leavesOf l D dA (h) (a + x) (by omega) (by omega) (by omega) (by omega)) (va_cwS 2 C.1.2.2.2.2 (hw_S tw_m_RX9_47 tw_t_X9_leavesOf tw_n_RX9 tw_k_X9_leavesOf) rfl rfl rfl (by decide +kernel) ⟨Nat.le_of_ble_eq_true rfl, Nat.le_of_ble_eq_true rfl⟩) (hv_pm [] rfl) rfl rfl (Nat.le_of_ble_eq_true rfl) dX9_cut_15 ⟨Nat.le_of_ble_eq_true rfl, Nat.le_of_ble_eq_true rfl⟩ (fun _ _ => ?_)
    have hdl15 := sp_dg_lt (h) (a + x)
    refine hv_eqst (st' := [.int (zI ((sp_dg (h) (a + x) : Int)))]) rfl ?_
    refine hv_weq (ws' := []) (rfl) ?_
    refine hv_istore C dX9_cut_18 (lw := [(6, .int (zI ((sp_dg (h) (a + x) : Int)))), (5, .int (zI (((a + x : Nat) : Int)))), (4, .int (zI ((sp_cut h k a x : Int)))), (0, .int (zI ((h : Int)))), (1, .int (zI ((a : Int)))), (2, .int (zI ((b : Int)))), (3, .int (zI ((k : Int))))]) (by decide) rfl ?_
    refine hv_iload C dX9_cut_20 2 rfl ?_
    refine hv_iload C dX9_cut_22 0 rfl ?_
    refine hv_iload_n C dX9_cut_24 6 rfl ?_
    refine hv_icmp_ge C dX9_cut_25 (tgt := 33) (by decide) (zI_le (by omega)) (fun hc25 => ?_) (fun hc25 => ?_)
    · refine hv_iload_n C dX9_cut_33 6 rfl ?_
      refine hv_topi (y := zI (((min k (sp_dg h (a + x)) : Nat) : Int))) (by exact zI_c (by omega)) ?_
      refine hv_iconst C dX9_cut_34 (v := zI (2)) rfl ?_
      refine hv_iload C dX9_cut_35 1 rfl ?_
      refine hv_imul C dX9_cut_37 (zI_mul _ _) ?_
      refine hv_ishl C dX9_cut_38 rfl ?_
      refine hv_topi (y := zI (((min k (sp_dg h (a + x)) * 4 ^ (a + x) : Nat) : Int))) (by exact sp_shl _ (by omega) _ (by omega)) ?_
      refine hv_isub C dX9_cut_39 (z := zI ((sp_cut h k a (x + 1) : Int))) ((zI_sub _ _).trans (zI_c (by exact (sp_cut_succ h _ _ x).symm))) ?_
      refine hv_istore C dX9_cut_40 (lw := [(4, .int (zI ((sp_cut h k a (x + 1) : Int)))), (6, .int (zI ((sp_dg (h) (a + x) : Int)))), (5, .int (zI (((a + x : Nat) : Int)))), (0, .int (zI ((h : Int)))), (1, .int (zI ((a : Int)))), (2, .int (zI ((b : Int)))), (3, .int (zI ((k : Int))))]) (by decide) rfl ?_
      refine hv_iinc C dX9_cut_42 2 rfl (v := zI (((a + (x + 1) : Nat) : Int))) ((zI_add _ _).trans (zI_c (by omega))) (by decide) (lw := [(5, .int (zI (((a + (x + 1) : Nat) : Int)))), (4, .int (zI ((sp_cut h k a (x + 1) : Int)))), (6, .int (zI ((sp_dg (h) (a + x) : Int)))), (0, .int (zI ((h : Int)))), (1, .int (zI ((a : Int)))), (2, .int (zI ((b : Int)))), (3, .int (zI ((k : Int))))]) rfl ?_
      refine hv_goto C dX9_cut_45 (tgt := 6) (by decide) ?_
      refine hv_lsub [0, 1, 3, 4, 5, 6] (lv' := [(5, .int (zI (((a + (x + 1) : Nat) : Int)))), (4, .int (zI ((sp_cut h k a (x + 1) : Int)))), (0, .int (zI ((h : Int)))), (1, .int (zI ((a : Int)))), (2, .int (zI ((b : Int)))), (3, .int (zI ((k : Int))))]) rfl ?_
      exact ih (n - 1) (x + 1) (by omega) (by omega)
    · refine hv_iload C dX9_cut_28 0 rfl ?_
      refine hv_goto C dX9_cut_30 (tgt := 34) (by decide) ?_
      refine hv_topi (y := zI (((min k (sp_dg h (a + x)) : Nat) : Int))) (by exact zI_c (by omega)) ?_
      refine hv_iconst C dX9_cut_34 (v := zI (2)) rfl ?_
      refine hv_iload C dX9_cut_35 1 rfl ?_
      refine hv_imul C dX9_cut_37 (zI_mul _ _) ?_
      refine hv_ishl C dX9_cut_38 rfl ?_
      refine hv_topi (y := zI (((min k (sp_dg h (a + x)) * 4 ^ (a + x) : Nat) : Int))) (by exact sp_shl _ (by omega) _ (by omega)) ?_
      refine hv_isub C dX9_cut_39 (z := zI ((sp_cut h k a (x + 1) : Int))) ((zI_sub _ _).trans (zI_c (by exact (sp_cut_succ h _ _ x).symm))) ?_
      refine hv_istore C dX9_cut_40 (lw := [(4, .int (zI ((sp_cut h k a (x + 1) : Int)))), (6, .int (zI ((sp_dg (h) (a + x) : Int)))), (5, .int (zI (((a + x : Nat) : Int)))), (0, .int (zI ((h : Int)))), (1, .int (zI ((a : Int)))), (2, .int (zI ((b : Int)))), (3, .int (zI ((k : Int))))]) (by decide) rfl ?_
      refine hv_iinc C dX9_cut_42 2 rfl (v := zI (((a + (x + 1) : Nat) : Int))) ((zI_add _ _).trans (zI_c (by omega))) (by decide) (lw := [(5, .int (zI (((a + (x + 1) : Nat) : Int)))), (4, .int (zI ((sp_cut h k a (x + 1) : Int)))), (6, .int (zI ((sp_dg (h) (a + x) : Int)))), (0, .int (zI ((h : Int)))), (1, .int (zI ((a : Int)))), (2, .int (zI ((b : Int)))), (3, .int (zI ((k : Int))))]) rfl ?_
      refine hv_goto C dX9_cut_45 (tgt := 6) (by decide) ?_
      refine hv_lsub [0, 1, 3, 4, 5, 6] (lv' := [(5, .int (zI (((a + (x + 1) : Nat) : Int)))), (4, .int (zI ((sp_cut h k a (x + 1) : Int)))), (0, .int (zI ((h : Int)))), (1, .int (zI ((a : Int)))), (2, .int (zI ((b : Int)))), (3, .int (zI ((k : Int))))]) rfl ?_
      exact ih (n - 1) (x + 1) (by omega) (by omega)
