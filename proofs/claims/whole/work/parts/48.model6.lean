/-! the model: public methods -/
def mz_w {α : Type} (o : Option String) (a b : α) : α := match o with
  | none => a
  | some _ => b
def mz_k1 (o : Option String) : Int := match o with
  | none => 0
  | some _ => 1
def mz_k2 (E1 : String) (o : Option String) : Int := match o with
  | none => 0
  | some E => if E = E1 then 1 else 2
def mz_k3 (E1 E2 : String) (o : Option String) : Int := match o with
  | none => 0
  | some E => if E = E1 then 1 else if E = E2 then 2 else 3
theorem hx_12 : ¬ hx_IAE = hx_ISE := by decide +kernel
theorem hx_13 : ¬ hx_IAE = hx_IOE := by decide +kernel
theorem hx_21 : ¬ hx_ISE = hx_IAE := by decide +kernel
theorem hx_23 : ¬ hx_ISE = hx_IOE := by decide +kernel
theorem mz_k1n : mz_k1 none = 0 := rfl
theorem mz_k1s {E : String} : mz_k1 (some E) = 1 := rfl
theorem mz_k2n {F : String} : mz_k2 F none = 0 := rfl
theorem mz_k2a {F : String} : mz_k2 F (some F) = 1 := by unfold mz_k2; dsimp only; rw [if_pos rfl]
theorem mz_k2b {E F : String} (h : ¬ E = F) : mz_k2 F (some E) = 2 := by unfold mz_k2; dsimp only; rw [if_neg h]
theorem mz_k3n {F G : String} : mz_k3 F G none = 0 := rfl
theorem mz_k3a {F G : String} : mz_k3 F G (some F) = 1 := by unfold mz_k3; dsimp only; rw [if_pos rfl]
theorem mz_k3b {F G : String} (h : ¬ G = F) : mz_k3 F G (some G) = 2 := by unfold mz_k3; dsimp only; rw [if_neg h, if_pos rfl]
theorem mz_k3c {E F G : String} (h : ¬ E = F) (h2 : ¬ E = G) : mz_k3 F G (some E) = 3 := by unfold mz_k3; dsimp only; rw [if_neg h, if_neg h2]
/-- the actions remembered: the oldest first, as the ring has them -/
def mz_D (nx sz : Nat) (ct : Nat → Nat → Int) (d : Nat → Int) : Prop := ∀ k, k < sz → ∀ i, i < 12 → d (12 * k + i) = ct ((nx + 14 - sz + k) % 14) i
/-- the rows in the save slots -/
def mz_K (sal : Nat → Bool) (sct : Nat → Nat → Int) (kp : Nat → Int) : Prop := ∀ z, z < 2 → sal z = true → ∀ i, i < 12 → kp (12 * z + i) = sct z i
theorem mz_D_new {nx sz j : Nat} {ct : Nat → Nat → Int} {d d2 g : Nat → Int} (hsz : sz < 14) (ej : j = nx % 14) (hD : mz_D nx sz ct d) (h1 : ∀ i, i < 12 * sz → d2 i = d i) (h2 : ∀ i, i < 12 → d2 (12 * sz + i) = g i) : mz_D (j + 1) (sz + 1) (mo_ct ct j g) d2 := by
  intro k hk i hi
  unfold mo_ct
  rcases Nat.lt_or_ge k sz with q | q
  · rw [if_neg (by omega), h1 _ (by omega), hD k q i hi]
    congr 1
    omega
  · obtain rfl : k = sz := by omega
    rw [if_pos (by omega), h2 i hi]
theorem mz_D_full {nx j : Nat} {ct : Nat → Nat → Int} {d d2 g : Nat → Int} (hnx : nx ≤ 14) (ej : j = nx % 14) (hD : mz_D nx 14 ct d) (h1 : ∀ i, i < 156 → d2 i = d (i + 12)) (h2 : ∀ i, i < 12 → d2 (156 + i) = g i) : mz_D (j + 1) 14 (mo_ct ct j g) d2 := by
  intro k hk i hi
  unfold mo_ct
  rcases Nat.lt_or_ge k 13 with q | q
  · rw [if_neg (by omega), h1 _ (by omega), show 12 * k + i + 12 = 12 * (k + 1) + i by omega, hD (k + 1) (by omega) i hi]
    congr 1
    omega
  · obtain rfl : k = 13 := by omega
    rw [if_pos (by omega), show 12 * 13 + i = 156 + i by omega, h2 i hi]
theorem mz_D_undo {nx sz j : Nat} {ct : Nat → Nat → Int} {d : Nat → Int} (h0 : 0 < sz) (hsz : sz ≤ 14) (ej : j = (nx + 13) % 14) (hD : mz_D nx sz ct d) : mz_D j (sz - 1) ct d := by
  intro k hk i hi
  rw [hD k (by omega) i hi]
  congr 1
  omega
theorem mz_D_top {nx sz j : Nat} {ct : Nat → Nat → Int} {d : Nat → Int} (h0 : 0 < sz) (hsz : sz ≤ 14) (ej : j = (nx + 13) % 14) (hD : mz_D nx sz ct d) : ∀ i, i < 12 → d (12 * (sz - 1) + i) = ct j i := by
  intro i hi
  rw [hD (sz - 1) (by omega) i hi]
  congr 1
  omega
theorem mz_K_save {sal : Nat → Bool} {sct : Nat → Nat → Int} {kp kp2 g : Nat → Int} {z : Nat} (hK : mz_K sal sct kp) (h1 : ∀ i, ¬ (12 * z ≤ i ∧ i < 12 * z + 12) → kp2 i = kp i) (h2 : ∀ i, i < 12 → kp2 (12 * z + i) = g i) : mz_K (mo_al sal z) (mo_ct sct z g) kp2 := by
  intro y hy ha i hi
  unfold mo_ct
  unfold mo_al at ha
  by_cases q : y = z
  · subst q
    rw [if_pos rfl, h2 i hi]
  · rw [if_neg q] at ha ⊢
    rw [h1 _ (by omega), hK y hy ha i hi]
theorem mz_ik (sal : Nat → Bool) (j : Nat) : upd (fun i => zI (zB (sal i))) j (zI 1) = fun i => zI (zB (mo_al sal j i)) := by
  funext i
  unfold upd mo_al
  by_cases q : i = j
  · rw [if_pos q, if_pos q]; rfl
  · rw [if_neg q, if_neg q]
theorem mz_ik2 (sal : Nat → Bool) : upd (upd (fun i => zI (zB (sal i))) 0 (zI 0)) 1 (zI 0) = fun i => zI (zB (ld_s sal i)) := by
  funext i
  unfold upd ld_s
  rcases (show i = 0 ∨ i = 1 ∨ 2 ≤ i by omega) with rfl | rfl | h
  · rfl
  · rfl
  · rw [if_neg (by omega), if_neg (by omega), if_neg (by omega : ¬ i < 2)]

theorem mz_clr {f : Nat → Int} : ∀ i, i < 12 → sp_set (sp_set (sp_set (sp_set (mz_0 f 12) 0 4) 1 170) 4 3) 5 2 i = sp_new 4 170 i := by
  intro i hi
  rcases (show i = 0 ∨ i = 1 ∨ i = 2 ∨ i = 3 ∨ i = 4 ∨ i = 5 ∨ i = 6 ∨ i = 7 ∨ i = 8 ∨ i = 9 ∨ i = 10 ∨ i = 11 by omega) with rfl | rfl | rfl | rfl | rfl | rfl | rfl | rfl | rfl | rfl | rfl | rfl <;> simp [sp_set, mz_0, sp_new]

set_option maxHeartbeats 4000000 in
set_option maxRecDepth 100000 in
theorem k_X9_clear (l : Launch) (D : va_G) (dA : Nat → ClassId) (r9 : Nat) (g : Nat → Int) : hv_Ct l yX9_clear (hw_W yX9_clear cX9_clear 2 none) 0 D dA [.ref r9] ([(r9, .inl (dA 0, 12, .inl (fun i => zI (g i))))]) 0 0 (S := Unit) (fun _ => none) (fun _ => True) (fun _ => [(r9, .inl (dA 0, 12, .inl (fun i => zI ((sp_new 4 170) i))))]) := by
  refine hv_of (cc := cX9_clear) (maxL := 2) (ret := none) (own := RX9) rfl (by decide) rfl (Nat.le_of_ble_eq_true rfl) ?_
  intro p e s m args below meth c C M
  refine hv_lveq (lv' := [(0, .ref r9)]) rfl ?_
  refine hv_iconst C dX9_clear_0 (v := zI (0)) rfl ?_
  refine hv_istore_n C dX9_clear_1 (lw := [(1, .int (zI (0))), (0, .ref r9)]) (by decide) rfl ?_
  refine hv_loop (σ := Nat) (fun n9 x => x + n9 = 12) (fun x => [(r9, .inl (dA 0, 12, .inl (fun i => zI (mz_0 g x i))))]) (fun x => [(1, .int (zI ((x : Int)))), (0, .ref r9)]) (fun x => []) (fun _ => 0) (fun _ => 0) (12) (0) (Nat.zero_add _) (⟨rfl, rfl, rfl, rfl, rfl⟩) (fun n9 x hI ih => ?_)
  obtain ⟨j, rfl⟩ : ∃ j, j = x := ⟨x, rfl⟩
  refine hv_iload_n C dX9_clear_2 0 rfl ?_
  refine hv_bipush C dX9_clear_3 (v := zI (12)) (by decide +kernel) ?_
  refine hv_icmp_ge C dX9_clear_5 (tgt := 18) (by decide) (zI_le (by omega)) (fun hc5 => ?_) (fun hc5 => ?_)
  · obtain rfl : j = 12 := (by omega)
    refine hv_aload_n C dX9_clear_18 1 rfl ?_
    refine hv_iconst C dX9_clear_19 (v := zI (0)) rfl ?_
    refine hv_iconst C dX9_clear_20 (v := zI (4)) rfl ?_
    refine hv_iast C dX9_clear_21 0 rfl (0) (rfl) (by omega) (by omega) ?_
    refine hv_weq (ws' := [(r9, .inl (dA 0, 12, .inl (fun i => zI ((sp_set ((mz_0 g 12)) 0 4) i))))]) (by rw [sp_upd]; rfl) ?_
    refine hv_aload_n C dX9_clear_22 1 rfl ?_
    refine hv_iconst C dX9_clear_23 (v := zI (1)) rfl ?_
    refine hv_sipush C dX9_clear_24 (v := zI (170)) (by decide +kernel) ?_
    refine hv_iast C dX9_clear_27 0 rfl (1) (rfl) (by omega) (by omega) ?_
    refine hv_weq (ws' := [(r9, .inl (dA 0, 12, .inl (fun i => zI ((sp_set ((sp_set ((mz_0 g 12)) 0 4)) 1 170) i))))]) (by rw [sp_upd]; rfl) ?_
    refine hv_aload_n C dX9_clear_28 1 rfl ?_
    refine hv_iconst C dX9_clear_29 (v := zI (4)) rfl ?_
    refine hv_iconst C dX9_clear_30 (v := zI (3)) rfl ?_
    refine hv_iast C dX9_clear_31 0 rfl (4) (rfl) (by omega) (by omega) ?_
    refine hv_weq (ws' := [(r9, .inl (dA 0, 12, .inl (fun i => zI ((sp_set ((sp_set ((sp_set ((mz_0 g 12)) 0 4)) 1 170)) 4 3) i))))]) (by rw [sp_upd]; rfl) ?_
    refine hv_aload_n C dX9_clear_32 1 rfl ?_
    refine hv_iconst C dX9_clear_33 (v := zI (5)) rfl ?_
    refine hv_iconst C dX9_clear_34 (v := zI (2)) rfl ?_
    refine hv_iast C dX9_clear_35 0 rfl (5) (rfl) (by omega) (by omega) ?_
    refine hv_weq (ws' := [(r9, .inl (dA 0, 12, .inl (fun i => zI ((sp_set ((sp_set ((sp_set ((sp_set ((mz_0 g 12)) 0 4)) 1 170)) 4 3)) 5 2) i))))]) (by rw [sp_upd]; rfl) ?_
    refine hv_acg 0 (f' := fun i => zI (sp_new 4 170 i)) rfl (fun i hi => ?_) rfl ?_
    · exact congrArg zI (mz_clr i hi)
    exact hv_vret C M dX9_clear_36 rfl () trivial rfl [] (List.Perm.of_eq (by first | rfl | exact (List.append_nil _).symm)) (Nat.le_refl _) (Nat.le_refl _)
  · refine hv_aload_n C dX9_clear_8 1 rfl ?_
    refine hv_iload_n C dX9_clear_9 0 rfl ?_
    refine hv_iconst C dX9_clear_10 (v := zI (0)) rfl ?_
    refine hv_iast C dX9_clear_11 0 rfl (j) (zI_ix (by omega)) (by omega) (by omega) ?_
    refine hv_weq (ws' := [(r9, .inl (dA 0, 12, .inl (fun i => zI (mz_0 g (j + 1) i))))]) (by rw [sp_upd]; rfl) ?_
    refine hv_iinc C dX9_clear_12 0 rfl (v := zI (((j + 1 : Nat) : Int))) ((zI_add _ _).trans (zI_c (by omega))) (by decide) (lw := [(1, .int (zI (((j + 1 : Nat) : Int)))), (0, .ref r9)]) rfl ?_
    refine hv_goto C dX9_clear_15 (tgt := 2) (by decide) ?_
    refine hv_lsub [0, 1] (lv' := [(1, .int (zI (((j + 1 : Nat) : Int)))), (0, .ref r9)]) rfl ?_
    obtain ⟨k, rfl⟩ : ∃ k, n9 = k + 1 := ⟨n9 - 1, by omega⟩
    exact ih k (j + 1) (by omega) (by omega)

set_option maxHeartbeats 4000000 in
set_option maxRecDepth 100000 in
theorem k_X9_append (l : Launch) (D : va_G) (dA : Nat → ClassId) (m9 xt nw tr di ke ik wt : Nat) (rf : Int) (n : Nat) (ac ld sp ou : Int) (tx : Nat → Int) (hn : n ≤ 120) (z : Int) (hz : -2147483648 ≤ z ∧ z < 2147483648) : hv_Ct l yX9_append (hw_W yX9_append cX9_append 2 (some .int)) 2 D dA [.ref m9, .int (zI (z))] ([(m9, .inr (7, [.int (zI (rf)), .ref xt, .int (zI ((n : Int))), .ref nw, .ref tr, .ref di, .int (zI (ac)), .ref ke, .ref ik, .ref wt, .int (zI (ld)), .int (zI (sp)), .int (zI (ou))])), (xt, .inl (dA 0, 120, .inl (fun i => zI (tx i))))]) 0 0 (S := Unit) (fun _ => mz_w (xc_app n z) (some (.int (zI (((n + 1 : Nat) : Int))))) (some (.int (zI 0)))) (fun _ => True) (fun u => mz_w (xc_app n z) ([(m9, .inr (7, [.int (zI (mz_k2 hx_IAE (xc_app n z))), .ref xt, .int (zI (((n + 1 : Nat) : Int))), .ref nw, .ref tr, .ref di, .int (zI (ac)), .ref ke, .ref ik, .ref wt, .int (zI (ld)), .int (zI (sp)), .int (zI (ou))])), (xt, .inl (dA 0, 120, .inl (fun i => zI ((sx_put tx n z) i))))]) ([(m9, .inr (7, [.int (zI (mz_k2 hx_IAE (xc_app n z))), .ref xt, .int (zI ((n : Int))), .ref nw, .ref tr, .ref di, .int (zI (ac)), .ref ke, .ref ik, .ref wt, .int (zI (ld)), .int (zI (sp)), .int (zI (ou))])), (xt, .inl (dA 0, 120, .inl (fun i => zI (tx i))))])) := by
  refine hv_of (cc := cX9_append) (maxL := 2) (ret := (some .int)) (own := RX9) rfl (by decide) rfl (Nat.le_of_ble_eq_true rfl) ?_
  intro p e s m args below meth c C M
  refine hv_lveq (lv' := [(0, .ref m9), (1, .int (zI (z)))]) rfl ?_
  refine hv_aload_n C dX9_append_0 0 rfl ?_
  refine hv_iload_n C dX9_append_1 1 rfl ?_
  refine hv_i2l C dX9_append_2 (v := (zL (z))) (by exact zL_i (by omega)) ?_
  refine hv_lconst C dX9_append_3 (v := 0) rfl ?_
  refine hv_ldc2 C dX9_append_4 (hw_c tw_o_RX9_117) ?_
  refine hv_eqst (st' := [.long (zL (255)), .long (zL (0)), .long (zL (z)), .ref m9]) (by rfl) ?_
  refine hv_callS (As := [.long (zL (z)), .long (zL (0)), .long (zL (255))]) (rest := [.ref m9]) (wc := []) (wr := [(m9, .inr (7, [.int (zI (rf)), .ref xt, .int (zI ((n : Int))), .ref nw, .ref tr, .ref di, .int (zI (ac)), .ref ke, .ref ik, .ref wt, .int (zI (ld)), .int (zI (sp)), .int (zI (ou))])), (xt, .inl (dA 0, 120, .inl (fun i => zI (tx i))))]) C (k_X9_in l D dA (z) (by omega) (0) (by omega) (255) (by omega)) (va_cwS 3 C.1.2.2.2.2 (hw_S tw_m_RX9_43 tw_t_X9_in tw_n_RX9 tw_k_X9_in) rfl rfl rfl (by decide +kernel) ⟨Nat.le_of_ble_eq_true rfl, Nat.le_of_ble_eq_true rfl⟩) (hv_pm [] rfl) rfl rfl (Nat.le_of_ble_eq_true rfl) dX9_append_7 ⟨Nat.le_of_ble_eq_true rfl, Nat.le_of_ble_eq_true rfl⟩ (fun _ _ => ?_)
  refine hv_eqst (st' := [.int (zI (zB (decide (0 ≤ z ∧ z ≤ 255)))), .ref m9]) rfl ?_
  refine hv_weq (ws' := [(m9, .inr (7, [.int (zI (rf)), .ref xt, .int (zI ((n : Int))), .ref nw, .ref tr, .ref di, .int (zI (ac)), .ref ke, .ref ik, .ref wt, .int (zI (ld)), .int (zI (sp)), .int (zI (ou))])), (xt, .inl (dA 0, 120, .inl (fun i => zI (tx i))))]) (rfl) ?_
  refine hv_if_ne C dX9_append_10 (tgt := 17) (by decide) zB_n0 (fun hc10 => ?_) (fun hc10 => ?_)
  · refine hv_aload_n C dX9_append_17 0 rfl ?_
    refine hv_get C dX9_append_18 (fun w h => hw_c (tw_u_9 w h)) 0 (ci := 7) rfl rfl 2 (by decide) (hw_c tw_f_RX9_119) rfl ?_
    refine hv_bipush C dX9_append_21 (v := zI (120)) (by decide +kernel) ?_
    refine hv_icmp_ne C dX9_append_23 (tgt := 30) (by decide) (zI_ne (by omega)) (fun hc23 => ?_) (fun hc23 => ?_)
    · refine hv_iconst C dX9_append_30 (v := zI (0)) rfl ?_
      refine hv_callV (As := [.int (zI (0))]) (rest := []) (wc := [(m9, .inr (7, [.int (zI (rf)), .ref xt, .int (zI ((n : Int))), .ref nw, .ref tr, .ref di, .int (zI (ac)), .ref ke, .ref ik, .ref wt, .int (zI (ld)), .int (zI (sp)), .int (zI (ou))]))]) (wr := [(xt, .inl (dA 0, 120, .inl (fun i => zI (tx i))))]) C (k_X9_refused l D dA m9 xt nw tr di ke ik wt (rf) ((n : Int)) (ac) (ld) (sp) (ou) 0 (by omega)) (cwV 1 C.1.2.2.2.2 (hw_V tw_m_RX9_122 tw_i_X9_refused tw_s_X9_refused tw_n_RX9 tw_k_X9_refused) rfl rfl rfl (by decide +kernel) ⟨Nat.le_of_ble_eq_true rfl, Nat.le_of_ble_eq_true rfl⟩) (hv_pm [0] rfl) rfl 0 7 rfl rfl rfl (Nat.le_of_ble_eq_true rfl) dX9_append_31 ⟨Nat.le_of_ble_eq_true rfl, Nat.le_of_ble_eq_true rfl⟩ (fun _ _ => ?_)
      have e9 : xc_app n z = none := by unfold xc_app; (repeat' split) <;> first | rfl | (exfalso; omega)
      have e8 : mz_k2 hx_IAE (xc_app n z) = 0 := by rw [e9]; exact mz_k2n
      refine hv_eqst (st' := [.int (zI (zB (decide ((0 : Int) < 0))))]) rfl ?_
      refine hv_weq (ws' := [(m9, .inr (7, [.int (zI (0)), .ref xt, .int (zI ((n : Int))), .ref nw, .ref tr, .ref di, .int (zI (ac)), .ref ke, .ref ik, .ref wt, .int (zI (ld)), .int (zI (sp)), .int (zI (ou))])), (xt, .inl (dA 0, 120, .inl (fun i => zI (tx i))))]) (rfl) ?_
      refine hv_if_eq C dX9_append_34 (tgt := 39) (by decide) zB_0 (fun hc34 => ?_) (fun hc34 => ?_)
      · refine hv_aload_n C dX9_append_39 0 rfl ?_
        refine hv_get C dX9_append_40 (fun w h => hw_c (tw_u_9 w h)) 0 (ci := 7) rfl rfl 1 (by decide) (hw_c tw_f_RX9_7) rfl ?_
        refine hv_aload_n C dX9_append_43 0 rfl ?_
        refine hv_get C dX9_append_44 (fun w h => hw_c (tw_u_9 w h)) 0 (ci := 7) rfl rfl 2 (by decide) (hw_c tw_f_RX9_119) rfl ?_
        refine hv_iload_n C dX9_append_47 1 rfl ?_
        refine hv_iast C dX9_append_48 1 rfl (n) (zI_nat _) (by omega) (by omega) ?_
        refine hv_weq (ws' := [(m9, .inr (7, [.int (zI (0)), .ref xt, .int (zI ((n : Int))), .ref nw, .ref tr, .ref di, .int (zI (ac)), .ref ke, .ref ik, .ref wt, .int (zI (ld)), .int (zI (sp)), .int (zI (ou))])), (xt, .inl (dA 0, 120, .inl (fun i => zI (sx_put tx n z i))))]) (by rw [show upd (fun i => zI (tx i)) n (zI z) = fun i => zI (sx_put tx n z i) from sx_put_upd tx n z]; rfl) ?_
        refine hv_aload_n C dX9_append_49 0 rfl ?_
        refine hv_dup C dX9_append_50 rfl ?_
        refine hv_get C dX9_append_51 (fun w h => hw_c (tw_u_9 w h)) 0 (ci := 7) rfl rfl 2 (by decide) (hw_c tw_f_RX9_119) rfl ?_
        refine hv_iconst C dX9_append_54 (v := zI (1)) rfl ?_
        refine hv_iadd C dX9_append_55 (z := zI (((n + 1 : Nat) : Int))) ((zI_add _ _).trans (zI_c (by omega))) ?_
        refine hv_put C dX9_append_56 (fun w h => hw_c (tw_u_9 w h)) tyX9 tyX9_ok nmX9 0 (ci := 7) (ty := .int) rfl rfl 2 (by decide) (hw_c tw_f_RX9_119) rfl rfl rfl rfl (Nat.le_of_ble_eq_true rfl) ?_
        refine hv_weq (ws' := [(m9, .inr (7, [.int (zI (0)), .ref xt, .int (zI (((n + 1 : Nat) : Int))), .ref nw, .ref tr, .ref di, .int (zI (ac)), .ref ke, .ref ik, .ref wt, .int (zI (ld)), .int (zI (sp)), .int (zI (ou))])), (xt, .inl (dA 0, 120, .inl (fun i => zI (sx_put tx n z i))))]) rfl ?_
        refine hv_aload_n C dX9_append_59 0 rfl ?_
        refine hv_get C dX9_append_60 (fun w h => hw_c (tw_u_9 w h)) 0 (ci := 7) rfl rfl 2 (by decide) (hw_c tw_f_RX9_119) rfl ?_
        exact hv_iret C M dX9_append_63 rfl rfl () trivial (by rw [e9]; rfl) [] (List.Perm.of_eq (by rw [e8, e9]; rfl)) (Nat.le_refl _) (Nat.le_refl _)
      · exact absurd hc34 (by omega)
    · refine hv_iconst C dX9_append_26 (v := zI (2)) rfl ?_
      refine hv_goto C dX9_append_27 (tgt := 31) (by decide) ?_
      refine hv_callV (As := [.int (zI (2))]) (rest := []) (wc := [(m9, .inr (7, [.int (zI (rf)), .ref xt, .int (zI ((n : Int))), .ref nw, .ref tr, .ref di, .int (zI (ac)), .ref ke, .ref ik, .ref wt, .int (zI (ld)), .int (zI (sp)), .int (zI (ou))]))]) (wr := [(xt, .inl (dA 0, 120, .inl (fun i => zI (tx i))))]) C (k_X9_refused l D dA m9 xt nw tr di ke ik wt (rf) ((n : Int)) (ac) (ld) (sp) (ou) 2 (by omega)) (cwV 1 C.1.2.2.2.2 (hw_V tw_m_RX9_122 tw_i_X9_refused tw_s_X9_refused tw_n_RX9 tw_k_X9_refused) rfl rfl rfl (by decide +kernel) ⟨Nat.le_of_ble_eq_true rfl, Nat.le_of_ble_eq_true rfl⟩) (hv_pm [0] rfl) rfl 0 7 rfl rfl rfl (Nat.le_of_ble_eq_true rfl) dX9_append_31 ⟨Nat.le_of_ble_eq_true rfl, Nat.le_of_ble_eq_true rfl⟩ (fun _ _ => ?_)
      have e9 : xc_app n z = some hx_ISE := by unfold xc_app; (repeat' split) <;> first | rfl | (exfalso; omega)
      have e8 : mz_k2 hx_IAE (xc_app n z) = 2 := by rw [e9]; exact (mz_k2b hx_21)
      refine hv_eqst (st' := [.int (zI (zB (decide ((0 : Int) < 2))))]) rfl ?_
      refine hv_weq (ws' := [(m9, .inr (7, [.int (zI (2)), .ref xt, .int (zI ((n : Int))), .ref nw, .ref tr, .ref di, .int (zI (ac)), .ref ke, .ref ik, .ref wt, .int (zI (ld)), .int (zI (sp)), .int (zI (ou))])), (xt, .inl (dA 0, 120, .inl (fun i => zI (tx i))))]) (rfl) ?_
      refine hv_if_eq C dX9_append_34 (tgt := 39) (by decide) zB_0 (fun hc34 => ?_) (fun hc34 => ?_)
      · exact absurd hc34 (by omega)
      · refine hv_iconst C dX9_append_37 (v := zI (0)) rfl ?_
        exact hv_iret C M dX9_append_38 rfl rfl () trivial (by rw [e9]; rfl) [] (List.Perm.of_eq (by rw [e8, e9]; rfl)) (Nat.le_refl _) (Nat.le_refl _)
  · refine hv_iconst C dX9_append_13 (v := zI (1)) rfl ?_
    refine hv_goto C dX9_append_14 (tgt := 31) (by decide) ?_
    refine hv_callV (As := [.int (zI (1))]) (rest := []) (wc := [(m9, .inr (7, [.int (zI (rf)), .ref xt, .int (zI ((n : Int))), .ref nw, .ref tr, .ref di, .int (zI (ac)), .ref ke, .ref ik, .ref wt, .int (zI (ld)), .int (zI (sp)), .int (zI (ou))]))]) (wr := [(xt, .inl (dA 0, 120, .inl (fun i => zI (tx i))))]) C (k_X9_refused l D dA m9 xt nw tr di ke ik wt (rf) ((n : Int)) (ac) (ld) (sp) (ou) 1 (by omega)) (cwV 1 C.1.2.2.2.2 (hw_V tw_m_RX9_122 tw_i_X9_refused tw_s_X9_refused tw_n_RX9 tw_k_X9_refused) rfl rfl rfl (by decide +kernel) ⟨Nat.le_of_ble_eq_true rfl, Nat.le_of_ble_eq_true rfl⟩) (hv_pm [0] rfl) rfl 0 7 rfl rfl rfl (Nat.le_of_ble_eq_true rfl) dX9_append_31 ⟨Nat.le_of_ble_eq_true rfl, Nat.le_of_ble_eq_true rfl⟩ (fun _ _ => ?_)
    have e9 : xc_app n z = some hx_IAE := by unfold xc_app; (repeat' split) <;> first | rfl | (exfalso; omega)
    have e8 : mz_k2 hx_IAE (xc_app n z) = 1 := by rw [e9]; exact mz_k2a
    refine hv_eqst (st' := [.int (zI (zB (decide ((0 : Int) < 1))))]) rfl ?_
    refine hv_weq (ws' := [(m9, .inr (7, [.int (zI (1)), .ref xt, .int (zI ((n : Int))), .ref nw, .ref tr, .ref di, .int (zI (ac)), .ref ke, .ref ik, .ref wt, .int (zI (ld)), .int (zI (sp)), .int (zI (ou))])), (xt, .inl (dA 0, 120, .inl (fun i => zI (tx i))))]) (rfl) ?_
    refine hv_if_eq C dX9_append_34 (tgt := 39) (by decide) zB_0 (fun hc34 => ?_) (fun hc34 => ?_)
    · exact absurd hc34 (by omega)
    · refine hv_iconst C dX9_append_37 (v := zI (0)) rfl ?_
      exact hv_iret C M dX9_append_38 rfl rfl () trivial (by rw [e9]; rfl) [] (List.Perm.of_eq (by rw [e8, e9]; rfl)) (Nat.le_refl _) (Nat.le_refl _)

set_option maxHeartbeats 4000000 in
set_option maxRecDepth 100000 in
theorem k_X9_clearText (l : Launch) (D : va_G) (dA : Nat → ClassId) (m9 xt nw tr di ke ik wt : Nat) (rf sz ac ld sp ou : Int) : hv_Ct l yX9_clearText (hw_W yX9_clearText cX9_clearText 2 (some .int)) 0 D dA [.ref m9] ([(m9, .inr (7, [.int (zI (rf)), .ref xt, .int (zI (sz)), .ref nw, .ref tr, .ref di, .int (zI (ac)), .ref ke, .ref ik, .ref wt, .int (zI (ld)), .int (zI (sp)), .int (zI (ou))]))]) 0 0 (S := Unit) (fun _ => some (.int (zI (sz)))) (fun _ => True) (fun _ => [(m9, .inr (7, [.int (zI (0)), .ref xt, .int (zI (0)), .ref nw, .ref tr, .ref di, .int (zI (ac)), .ref ke, .ref ik, .ref wt, .int (zI (ld)), .int (zI (sp)), .int (zI (ou))]))]) := by
  refine hv_of (cc := cX9_clearText) (maxL := 2) (ret := (some .int)) (own := RX9) rfl (by decide) rfl (Nat.le_of_ble_eq_true rfl) ?_
  intro p e s m args below meth c C M
  refine hv_lveq (lv' := [(0, .ref m9)]) rfl ?_
  refine hv_aload_n C dX9_clearText_0 0 rfl ?_
  refine hv_iconst C dX9_clearText_1 (v := zI (0)) rfl ?_
  refine hv_put C dX9_clearText_2 (fun w h => hw_c (tw_u_9 w h)) tyX9 tyX9_ok nmX9 0 (ci := 7) (ty := .int) rfl rfl 0 (by decide) (hw_c tw_f_RX9_40) rfl rfl rfl rfl (Nat.le_of_ble_eq_true rfl) ?_
  refine hv_weq (ws' := [(m9, .inr (7, [.int (zI (0)), .ref xt, .int (zI (sz)), .ref nw, .ref tr, .ref di, .int (zI (ac)), .ref ke, .ref ik, .ref wt, .int (zI (ld)), .int (zI (sp)), .int (zI (ou))]))]) rfl ?_
  refine hv_aload_n C dX9_clearText_5 0 rfl ?_
  refine hv_get C dX9_clearText_6 (fun w h => hw_c (tw_u_9 w h)) 0 (ci := 7) rfl rfl 2 (by decide) (hw_c tw_f_RX9_119) rfl ?_
  refine hv_istore_n C dX9_clearText_9 (lw := [(1, .int (zI (sz))), (0, .ref m9)]) (by decide) rfl ?_
  refine hv_aload_n C dX9_clearText_10 1 rfl ?_
  refine hv_iconst C dX9_clearText_11 (v := zI (0)) rfl ?_
  refine hv_put C dX9_clearText_12 (fun w h => hw_c (tw_u_9 w h)) tyX9 tyX9_ok nmX9 0 (ci := 7) (ty := .int) rfl rfl 2 (by decide) (hw_c tw_f_RX9_119) rfl rfl rfl rfl (Nat.le_of_ble_eq_true rfl) ?_
  refine hv_weq (ws' := [(m9, .inr (7, [.int (zI (0)), .ref xt, .int (zI (0)), .ref nw, .ref tr, .ref di, .int (zI (ac)), .ref ke, .ref ik, .ref wt, .int (zI (ld)), .int (zI (sp)), .int (zI (ou))]))]) rfl ?_
  refine hv_iload_n C dX9_clearText_15 0 rfl ?_
  exact hv_iret C M dX9_clearText_16 rfl rfl () trivial rfl [] (List.Perm.of_eq (by first | rfl | exact (List.append_nil _).symm)) (Nat.le_refl _) (Nat.le_refl _)

set_option maxHeartbeats 4000000 in
set_option maxRecDepth 100000 in
theorem k_X9_leaves (l : Launch) (D : va_G) (dA : Nat → ClassId) (m9 xt nw tr di ke ik wt : Nat) (rf sz ac ld sp ou : Int) (g : Nat → Int) (hg : WF g) (z : Int) (hz : -2147483648 ≤ z ∧ z < 2147483648) : hv_Ct l yX9_leaves (hw_W yX9_leaves cX9_leaves 2 (some .int)) 3 D dA [.ref m9, .int (zI (z))] ([(m9, .inr (7, [.int (zI (rf)), .ref xt, .int (zI (sz)), .ref nw, .ref tr, .ref di, .int (zI (ac)), .ref ke, .ref ik, .ref wt, .int (zI (ld)), .int (zI (sp)), .int (zI (ou))])), (nw, .inl (dA 0, 12, .inl (fun i => zI (g i))))]) 0 0 (S := Unit) (fun _ => mz_w (xc_stem g z) (some (.int (zI ((sp_dg (gH g) z.toNat : Int))))) (some (.int (zI 0)))) (fun _ => True) (fun u => mz_w (xc_stem g z) ([(m9, .inr (7, [.int (zI (mz_k1 (xc_stem g z))), .ref xt, .int (zI (sz)), .ref nw, .ref tr, .ref di, .int (zI (ac)), .ref ke, .ref ik, .ref wt, .int (zI (ld)), .int (zI (sp)), .int (zI (ou))])), (nw, .inl (dA 0, 12, .inl (fun i => zI (g i))))]) ([(m9, .inr (7, [.int (zI (mz_k1 (xc_stem g z))), .ref xt, .int (zI (sz)), .ref nw, .ref tr, .ref di, .int (zI (ac)), .ref ke, .ref ik, .ref wt, .int (zI (ld)), .int (zI (sp)), .int (zI (ou))])), (nw, .inl (dA 0, 12, .inl (fun i => zI (g i))))])) := by
  have hg0 := hg.1
  have hg1 := hg.e1
  have hgx := hg.x
  have hg5 := hg.2.2.2.2.2
  have hgR := hg.R
  have hgS := hg.S
  have hge0 := hg.e0
  have hge5 := hg.e5
  refine hv_of (cc := cX9_leaves) (maxL := 2) (ret := (some .int)) (own := RX9) rfl (by decide) rfl (Nat.le_of_ble_eq_true rfl) ?_
  intro p e s m args below meth c C M
  refine hv_lveq (lv' := [(0, .ref m9), (1, .int (zI (z)))]) rfl ?_
  refine hv_aload_n C dX9_leaves_0 0 rfl ?_
  refine hv_aload_n C dX9_leaves_1 0 rfl ?_
  refine hv_get C dX9_leaves_2 (fun w h => hw_c (tw_u_9 w h)) 0 (ci := 7) rfl rfl 3 (by decide) (hw_c tw_f_RX9_13) rfl ?_
  refine hv_iload_n C dX9_leaves_5 1 rfl ?_
  refine hv_callS (As := [.ref nw, .int (zI (z))]) (rest := [.ref m9]) (wc := [(nw, .inl (dA 0, 12, .inl (fun i => zI (g i))))]) (wr := [(m9, .inr (7, [.int (zI (rf)), .ref xt, .int (zI (sz)), .ref nw, .ref tr, .ref di, .int (zI (ac)), .ref ke, .ref ik, .ref wt, .int (zI (ld)), .int (zI (sp)), .int (zI (ou))]))]) C (k_X9_isStem l D dA nw g (by omega) (z) (by omega)) (va_cwS 2 C.1.2.2.2.2 (hw_S tw_m_RX9_53 tw_t_X9_isStem tw_n_RX9 tw_k_X9_isStem) rfl rfl rfl (by decide +kernel) ⟨Nat.le_of_ble_eq_true rfl, Nat.le_of_ble_eq_true rfl⟩) (hv_pm [1] rfl) rfl rfl (Nat.le_of_ble_eq_true rfl) dX9_leaves_6 ⟨Nat.le_of_ble_eq_true rfl, Nat.le_of_ble_eq_true rfl⟩ (fun _ _ => ?_)
  refine hv_eqst (st' := [.int (zI (zB (decide (0 ≤ z ∧ z < g 0)))), .ref m9]) rfl ?_
  refine hv_weq (ws' := [(nw, .inl (dA 0, 12, .inl (fun i => zI (g i)))), (m9, .inr (7, [.int (zI (rf)), .ref xt, .int (zI (sz)), .ref nw, .ref tr, .ref di, .int (zI (ac)), .ref ke, .ref ik, .ref wt, .int (zI (ld)), .int (zI (sp)), .int (zI (ou))]))]) (rfl) ?_
  refine hv_srt [1, 0] (ws' := [(m9, .inr (7, [.int (zI (rf)), .ref xt, .int (zI (sz)), .ref nw, .ref tr, .ref di, .int (zI (ac)), .ref ke, .ref ik, .ref wt, .int (zI (ld)), .int (zI (sp)), .int (zI (ou))])), (nw, .inl (dA 0, 12, .inl (fun i => zI (g i))))]) rfl ?_
  refine hv_if_eq C dX9_leaves_9 (tgt := 16) (by decide) zB_0 (fun hc9 => ?_) (fun hc9 => ?_)
  · refine hv_iconst C dX9_leaves_16 (v := zI (1)) rfl ?_
    refine hv_callV (As := [.int (zI (1))]) (rest := []) (wc := [(m9, .inr (7, [.int (zI (rf)), .ref xt, .int (zI (sz)), .ref nw, .ref tr, .ref di, .int (zI (ac)), .ref ke, .ref ik, .ref wt, .int (zI (ld)), .int (zI (sp)), .int (zI (ou))]))]) (wr := [(nw, .inl (dA 0, 12, .inl (fun i => zI (g i))))]) C (k_X9_refused l D dA m9 xt nw tr di ke ik wt (rf) (sz) (ac) (ld) (sp) (ou) 1 (by omega)) (cwV 1 C.1.2.2.2.2 (hw_V tw_m_RX9_122 tw_i_X9_refused tw_s_X9_refused tw_n_RX9 tw_k_X9_refused) rfl rfl rfl (by decide +kernel) ⟨Nat.le_of_ble_eq_true rfl, Nat.le_of_ble_eq_true rfl⟩) (hv_pm [0] rfl) rfl 0 7 rfl rfl rfl (Nat.le_of_ble_eq_true rfl) dX9_leaves_17 ⟨Nat.le_of_ble_eq_true rfl, Nat.le_of_ble_eq_true rfl⟩ (fun _ _ => ?_)
    have e9 : xc_stem g z = some hx_IOE := by unfold xc_stem; (repeat' split) <;> first | rfl | (exfalso; omega)
    have e8 : mz_k1 (xc_stem g z) = 1 := by rw [e9]; exact mz_k1s
    refine hv_eqst (st' := [.int (zI (zB (decide ((0 : Int) < 1))))]) rfl ?_
    refine hv_weq (ws' := [(m9, .inr (7, [.int (zI (1)), .ref xt, .int (zI (sz)), .ref nw, .ref tr, .ref di, .int (zI (ac)), .ref ke, .ref ik, .ref wt, .int (zI (ld)), .int (zI (sp)), .int (zI (ou))])), (nw, .inl (dA 0, 12, .inl (fun i => zI (g i))))]) (rfl) ?_
    refine hv_if_eq C dX9_leaves_20 (tgt := 25) (by decide) zB_0 (fun hc20 => ?_) (fun hc20 => ?_)
    · exact absurd hc20 (by omega)
    · refine hv_iconst C dX9_leaves_23 (v := zI (0)) rfl ?_
      exact hv_iret C M dX9_leaves_24 rfl rfl () trivial (by rw [e9]; rfl) [] (List.Perm.of_eq (by rw [e8, e9]; rfl)) (Nat.le_refl _) (Nat.le_refl _)
  · refine hv_iconst C dX9_leaves_12 (v := zI (0)) rfl ?_
    refine hv_goto C dX9_leaves_13 (tgt := 17) (by decide) ?_
    refine hv_callV (As := [.int (zI (0))]) (rest := []) (wc := [(m9, .inr (7, [.int (zI (rf)), .ref xt, .int (zI (sz)), .ref nw, .ref tr, .ref di, .int (zI (ac)), .ref ke, .ref ik, .ref wt, .int (zI (ld)), .int (zI (sp)), .int (zI (ou))]))]) (wr := [(nw, .inl (dA 0, 12, .inl (fun i => zI (g i))))]) C (k_X9_refused l D dA m9 xt nw tr di ke ik wt (rf) (sz) (ac) (ld) (sp) (ou) 0 (by omega)) (cwV 1 C.1.2.2.2.2 (hw_V tw_m_RX9_122 tw_i_X9_refused tw_s_X9_refused tw_n_RX9 tw_k_X9_refused) rfl rfl rfl (by decide +kernel) ⟨Nat.le_of_ble_eq_true rfl, Nat.le_of_ble_eq_true rfl⟩) (hv_pm [0] rfl) rfl 0 7 rfl rfl rfl (Nat.le_of_ble_eq_true rfl) dX9_leaves_17 ⟨Nat.le_of_ble_eq_true rfl, Nat.le_of_ble_eq_true rfl⟩ (fun _ _ => ?_)
    have e9 : xc_stem g z = none := by unfold xc_stem; (repeat' split) <;> first | rfl | (exfalso; omega)
    have e8 : mz_k1 (xc_stem g z) = 0 := by rw [e9]; exact mz_k1n
    refine hv_eqst (st' := [.int (zI (zB (decide ((0 : Int) < 0))))]) rfl ?_
    refine hv_weq (ws' := [(m9, .inr (7, [.int (zI (0)), .ref xt, .int (zI (sz)), .ref nw, .ref tr, .ref di, .int (zI (ac)), .ref ke, .ref ik, .ref wt, .int (zI (ld)), .int (zI (sp)), .int (zI (ou))])), (nw, .inl (dA 0, 12, .inl (fun i => zI (g i))))]) (rfl) ?_
    refine hv_if_eq C dX9_leaves_20 (tgt := 25) (by decide) zB_0 (fun hc20 => ?_) (fun hc20 => ?_)
    · refine hv_aload_n C dX9_leaves_25 0 rfl ?_
      refine hv_get C dX9_leaves_26 (fun w h => hw_c (tw_u_9 w h)) 0 (ci := 7) rfl rfl 3 (by decide) (hw_c tw_f_RX9_13) rfl ?_
      refine hv_iconst C dX9_leaves_29 (v := zI (1)) rfl ?_
      refine hv_iald C dX9_leaves_30 1 rfl (1) (rfl) (by omega) (by omega) (v := (zI (g 1))) rfl ?_
      refine hv_iload_n C dX9_leaves_31 1 rfl ?_
      refine hv_callS (As := [.int (zI (g 1)), .int (zI (z))]) (rest := []) (wc := []) (wr := [(m9, .inr (7, [.int (zI (0)), .ref xt, .int (zI (sz)), .ref nw, .ref tr, .ref di, .int (zI (ac)), .ref ke, .ref ik, .ref wt, .int (zI (ld)), .int (zI (sp)), .int (zI (ou))])), (nw, .inl (dA 0, 12, .inl (fun i => zI (g i))))]) C (k_X9_leavesOf l D dA (gH g) z.toNat hg.e1 (by omega) (by omega) (by omega)) (va_cwS 2 C.1.2.2.2.2 (hw_S tw_m_RX9_47 tw_t_X9_leavesOf tw_n_RX9 tw_k_X9_leavesOf) rfl rfl rfl (by decide +kernel) ⟨Nat.le_of_ble_eq_true rfl, Nat.le_of_ble_eq_true rfl⟩) (hv_pm [] rfl) rfl rfl (Nat.le_of_ble_eq_true rfl) dX9_leaves_32 ⟨Nat.le_of_ble_eq_true rfl, Nat.le_of_ble_eq_true rfl⟩ (fun _ _ => ?_)
      refine hv_eqst (st' := [.int (zI ((sp_dg (gH g) z.toNat : Int)))]) rfl ?_
      refine hv_weq (ws' := [(m9, .inr (7, [.int (zI (0)), .ref xt, .int (zI (sz)), .ref nw, .ref tr, .ref di, .int (zI (ac)), .ref ke, .ref ik, .ref wt, .int (zI (ld)), .int (zI (sp)), .int (zI (ou))])), (nw, .inl (dA 0, 12, .inl (fun i => zI (g i))))]) (rfl) ?_
      exact hv_iret C M dX9_leaves_35 rfl rfl () trivial (by rw [e9]; rfl) [] (List.Perm.of_eq (by rw [e8, e9]; rfl)) (Nat.le_refl _) (Nat.le_refl _)
    · exact absurd hc20 (by omega)

set_option maxHeartbeats 4000000 in
set_option maxRecDepth 100000 in
theorem k_X9_gardener (l : Launch) (D : va_G) (dA : Nat → ClassId) (m9 xt nw tr di ke ik wt : Nat) (rf sz ac ld sp ou : Int) (g : Nat → Int) (hg : WF g) (a : Int) (ha : -2147483648 ≤ a ∧ a < 2147483648) (b : Int) (hb : -2147483648 ≤ b ∧ b < 2147483648) : hv_Ct l yX9_gardener (hw_W yX9_gardener cX9_gardener 3 (some .int)) 2 D dA [.ref m9, .int (zI (a)), .int (zI (b))] ([(m9, .inr (7, [.int (zI (rf)), .ref xt, .int (zI (sz)), .ref nw, .ref tr, .ref di, .int (zI (ac)), .ref ke, .ref ik, .ref wt, .int (zI (ld)), .int (zI (sp)), .int (zI (ou))])), (nw, .inl (dA 0, 12, .inl (fun i => zI (g i))))]) 0 0 (S := Unit) (fun _ => mz_w (xc_gar a b) (some (.int (zI (xa_gar g a b)))) (some (.int (zI 0)))) (fun _ => True) (fun u => mz_w (xc_gar a b) ([(m9, .inr (7, [.int (zI (mz_k2 hx_IOE (xc_gar a b))), .ref xt, .int (zI (sz)), .ref nw, .ref tr, .ref di, .int (zI (ac)), .ref ke, .ref ik, .ref wt, .int (zI (ld)), .int (zI (sp)), .int (zI (ou))])), (nw, .inl (dA 0, 12, .inl (fun i => zI (g i))))]) ([(m9, .inr (7, [.int (zI (mz_k2 hx_IOE (xc_gar a b))), .ref xt, .int (zI (sz)), .ref nw, .ref tr, .ref di, .int (zI (ac)), .ref ke, .ref ik, .ref wt, .int (zI (ld)), .int (zI (sp)), .int (zI (ou))])), (nw, .inl (dA 0, 12, .inl (fun i => zI (g i))))])) := by
  have hg0 := hg.1
  have hg1 := hg.e1
  have hgx := hg.x
  have hg5 := hg.2.2.2.2.2
  have hgR := hg.R
  have hgS := hg.S
  have hge0 := hg.e0
  have hge5 := hg.e5
  refine hv_of (cc := cX9_gardener) (maxL := 3) (ret := (some .int)) (own := RX9) rfl (by decide) rfl (Nat.le_of_ble_eq_true rfl) ?_
  intro p e s m args below meth c C M
  refine hv_lveq (lv' := [(0, .ref m9), (1, .int (zI (a))), (2, .int (zI (b)))]) rfl ?_
  refine hv_aload_n C dX9_gardener_0 0 rfl ?_
  refine hv_iload_n C dX9_gardener_1 1 rfl ?_
  refine hv_i2l C dX9_gardener_2 (v := (zL (a))) (by exact zL_i (by omega)) ?_
  refine hv_lconst C dX9_gardener_3 (v := 0) rfl ?_
  refine hv_lconst C dX9_gardener_4 (v := 1) rfl ?_
  refine hv_eqst (st' := [.long (zL (1)), .long (zL (0)), .long (zL (a)), .ref m9]) (by rfl) ?_
  refine hv_callS (As := [.long (zL (a)), .long (zL (0)), .long (zL (1))]) (rest := [.ref m9]) (wc := []) (wr := [(m9, .inr (7, [.int (zI (rf)), .ref xt, .int (zI (sz)), .ref nw, .ref tr, .ref di, .int (zI (ac)), .ref ke, .ref ik, .ref wt, .int (zI (ld)), .int (zI (sp)), .int (zI (ou))])), (nw, .inl (dA 0, 12, .inl (fun i => zI (g i))))]) C (k_X9_in l D dA (a) (by omega) (0) (by omega) (1) (by omega)) (va_cwS 3 C.1.2.2.2.2 (hw_S tw_m_RX9_43 tw_t_X9_in tw_n_RX9 tw_k_X9_in) rfl rfl rfl (by decide +kernel) ⟨Nat.le_of_ble_eq_true rfl, Nat.le_of_ble_eq_true rfl⟩) (hv_pm [] rfl) rfl rfl (Nat.le_of_ble_eq_true rfl) dX9_gardener_5 ⟨Nat.le_of_ble_eq_true rfl, Nat.le_of_ble_eq_true rfl⟩ (fun _ _ => ?_)
  refine hv_eqst (st' := [.int (zI (zB (decide (0 ≤ a ∧ a ≤ 1)))), .ref m9]) rfl ?_
  refine hv_weq (ws' := [(m9, .inr (7, [.int (zI (rf)), .ref xt, .int (zI (sz)), .ref nw, .ref tr, .ref di, .int (zI (ac)), .ref ke, .ref ik, .ref wt, .int (zI (ld)), .int (zI (sp)), .int (zI (ou))])), (nw, .inl (dA 0, 12, .inl (fun i => zI (g i))))]) (rfl) ?_
  refine hv_if_ne C dX9_gardener_8 (tgt := 15) (by decide) zB_n0 (fun hc8 => ?_) (fun hc8 => ?_)
  · refine hv_iload_n C dX9_gardener_15 2 rfl ?_
    refine hv_i2l C dX9_gardener_16 (v := (zL (b))) (by exact zL_i (by omega)) ?_
    refine hv_lconst C dX9_gardener_17 (v := 0) rfl ?_
    refine hv_ldc2 C dX9_gardener_18 (hw_c tw_o_RX9_171) ?_
    refine hv_eqst (st' := [.long (zL (2)), .long (zL (0)), .long (zL (b)), .ref m9]) (by rfl) ?_
    refine hv_callS (As := [.long (zL (b)), .long (zL (0)), .long (zL (2))]) (rest := [.ref m9]) (wc := []) (wr := [(m9, .inr (7, [.int (zI (rf)), .ref xt, .int (zI (sz)), .ref nw, .ref tr, .ref di, .int (zI (ac)), .ref ke, .ref ik, .ref wt, .int (zI (ld)), .int (zI (sp)), .int (zI (ou))])), (nw, .inl (dA 0, 12, .inl (fun i => zI (g i))))]) C (k_X9_in l D dA (b) (by omega) (0) (by omega) (2) (by omega)) (va_cwS 3 C.1.2.2.2.2 (hw_S tw_m_RX9_43 tw_t_X9_in tw_n_RX9 tw_k_X9_in) rfl rfl rfl (by decide +kernel) ⟨Nat.le_of_ble_eq_true rfl, Nat.le_of_ble_eq_true rfl⟩) (hv_pm [] rfl) rfl rfl (Nat.le_of_ble_eq_true rfl) dX9_gardener_21 ⟨Nat.le_of_ble_eq_true rfl, Nat.le_of_ble_eq_true rfl⟩ (fun _ _ => ?_)
    refine hv_eqst (st' := [.int (zI (zB (decide (0 ≤ b ∧ b ≤ 2)))), .ref m9]) rfl ?_
    refine hv_weq (ws' := [(m9, .inr (7, [.int (zI (rf)), .ref xt, .int (zI (sz)), .ref nw, .ref tr, .ref di, .int (zI (ac)), .ref ke, .ref ik, .ref wt, .int (zI (ld)), .int (zI (sp)), .int (zI (ou))])), (nw, .inl (dA 0, 12, .inl (fun i => zI (g i))))]) (rfl) ?_
    refine hv_if_eq C dX9_gardener_24 (tgt := 31) (by decide) zB_0 (fun hc24 => ?_) (fun hc24 => ?_)
    · refine hv_iconst C dX9_gardener_31 (v := zI (2)) rfl ?_
      refine hv_callV (As := [.int (zI (2))]) (rest := []) (wc := [(m9, .inr (7, [.int (zI (rf)), .ref xt, .int (zI (sz)), .ref nw, .ref tr, .ref di, .int (zI (ac)), .ref ke, .ref ik, .ref wt, .int (zI (ld)), .int (zI (sp)), .int (zI (ou))]))]) (wr := [(nw, .inl (dA 0, 12, .inl (fun i => zI (g i))))]) C (k_X9_refused l D dA m9 xt nw tr di ke ik wt (rf) (sz) (ac) (ld) (sp) (ou) 2 (by omega)) (cwV 1 C.1.2.2.2.2 (hw_V tw_m_RX9_122 tw_i_X9_refused tw_s_X9_refused tw_n_RX9 tw_k_X9_refused) rfl rfl rfl (by decide +kernel) ⟨Nat.le_of_ble_eq_true rfl, Nat.le_of_ble_eq_true rfl⟩) (hv_pm [0] rfl) rfl 0 7 rfl rfl rfl (Nat.le_of_ble_eq_true rfl) dX9_gardener_32 ⟨Nat.le_of_ble_eq_true rfl, Nat.le_of_ble_eq_true rfl⟩ (fun _ _ => ?_)
      have e9 : xc_gar a b = some hx_IAE := by unfold xc_gar; (repeat' split) <;> first | rfl | (exfalso; omega)
      have e8 : mz_k2 hx_IOE (xc_gar a b) = 2 := by rw [e9]; exact (mz_k2b hx_13)
      refine hv_eqst (st' := [.int (zI (zB (decide ((0 : Int) < 2))))]) rfl ?_
      refine hv_weq (ws' := [(m9, .inr (7, [.int (zI (2)), .ref xt, .int (zI (sz)), .ref nw, .ref tr, .ref di, .int (zI (ac)), .ref ke, .ref ik, .ref wt, .int (zI (ld)), .int (zI (sp)), .int (zI (ou))])), (nw, .inl (dA 0, 12, .inl (fun i => zI (g i))))]) (rfl) ?_
      refine hv_if_eq C dX9_gardener_35 (tgt := 40) (by decide) zB_0 (fun hc35 => ?_) (fun hc35 => ?_)
      · exact absurd hc35 (by omega)
      · refine hv_iconst C dX9_gardener_38 (v := zI (0)) rfl ?_
        exact hv_iret C M dX9_gardener_39 rfl rfl () trivial (by rw [e9]; rfl) [] (List.Perm.of_eq (by rw [e8, e9]; rfl)) (Nat.le_refl _) (Nat.le_refl _)
    · refine hv_iconst C dX9_gardener_27 (v := zI (0)) rfl ?_
      refine hv_goto C dX9_gardener_28 (tgt := 32) (by decide) ?_
      refine hv_callV (As := [.int (zI (0))]) (rest := []) (wc := [(m9, .inr (7, [.int (zI (rf)), .ref xt, .int (zI (sz)), .ref nw, .ref tr, .ref di, .int (zI (ac)), .ref ke, .ref ik, .ref wt, .int (zI (ld)), .int (zI (sp)), .int (zI (ou))]))]) (wr := [(nw, .inl (dA 0, 12, .inl (fun i => zI (g i))))]) C (k_X9_refused l D dA m9 xt nw tr di ke ik wt (rf) (sz) (ac) (ld) (sp) (ou) 0 (by omega)) (cwV 1 C.1.2.2.2.2 (hw_V tw_m_RX9_122 tw_i_X9_refused tw_s_X9_refused tw_n_RX9 tw_k_X9_refused) rfl rfl rfl (by decide +kernel) ⟨Nat.le_of_ble_eq_true rfl, Nat.le_of_ble_eq_true rfl⟩) (hv_pm [0] rfl) rfl 0 7 rfl rfl rfl (Nat.le_of_ble_eq_true rfl) dX9_gardener_32 ⟨Nat.le_of_ble_eq_true rfl, Nat.le_of_ble_eq_true rfl⟩ (fun _ _ => ?_)
      have e9 : xc_gar a b = none := by unfold xc_gar; (repeat' split) <;> first | rfl | (exfalso; omega)
      have e8 : mz_k2 hx_IOE (xc_gar a b) = 0 := by rw [e9]; exact mz_k2n
      refine hv_eqst (st' := [.int (zI (zB (decide ((0 : Int) < 0))))]) rfl ?_
      refine hv_weq (ws' := [(m9, .inr (7, [.int (zI (0)), .ref xt, .int (zI (sz)), .ref nw, .ref tr, .ref di, .int (zI (ac)), .ref ke, .ref ik, .ref wt, .int (zI (ld)), .int (zI (sp)), .int (zI (ou))])), (nw, .inl (dA 0, 12, .inl (fun i => zI (g i))))]) (rfl) ?_
      refine hv_if_eq C dX9_gardener_35 (tgt := 40) (by decide) zB_0 (fun hc35 => ?_) (fun hc35 => ?_)
      · refine hv_aload_n C dX9_gardener_40 0 rfl ?_
        refine hv_get C dX9_gardener_41 (fun w h => hw_c (tw_u_9 w h)) 0 (ci := 7) rfl rfl 3 (by decide) (hw_c tw_f_RX9_13) rfl ?_
        refine hv_bipush C dX9_gardener_44 (v := zI (6)) (by decide +kernel) ?_
        refine hv_iconst C dX9_gardener_46 (v := zI (2)) rfl ?_
        refine hv_iload_n C dX9_gardener_47 2 rfl ?_
        refine hv_imul C dX9_gardener_48 (zI_mul _ _) ?_
        refine hv_iadd C dX9_gardener_49 (zI_add _ _) ?_
        refine hv_iload_n C dX9_gardener_50 1 rfl ?_
        refine hv_iadd C dX9_gardener_51 (zI_add _ _) ?_
        refine hv_iald C dX9_gardener_52 1 rfl ((6 + 2 * b + a).toNat) (zI_ix (by omega)) (by omega) (by omega) (v := (zI (xa_gar g a b))) (by rcases (show (a = 0 ∧ b = 0) ∨ (a = 0 ∧ b = 1) ∨ (a = 0 ∧ b = 2) ∨ (a = 1 ∧ b = 0) ∨ (a = 1 ∧ b = 1) ∨ (a = 1 ∧ b = 2) by omega) with ⟨rfl, rfl⟩ | ⟨rfl, rfl⟩ | ⟨rfl, rfl⟩ | ⟨rfl, rfl⟩ | ⟨rfl, rfl⟩ | ⟨rfl, rfl⟩ <;> rfl) ?_
        exact hv_iret C M dX9_gardener_53 rfl rfl () trivial (by rw [e9]; rfl) [] (List.Perm.of_eq (by rw [e8, e9]; rfl)) (Nat.le_refl _) (Nat.le_refl _)
      · exact absurd hc35 (by omega)
  · refine hv_iconst C dX9_gardener_11 (v := zI (1)) rfl ?_
    refine hv_goto C dX9_gardener_12 (tgt := 32) (by decide) ?_
    refine hv_callV (As := [.int (zI (1))]) (rest := []) (wc := [(m9, .inr (7, [.int (zI (rf)), .ref xt, .int (zI (sz)), .ref nw, .ref tr, .ref di, .int (zI (ac)), .ref ke, .ref ik, .ref wt, .int (zI (ld)), .int (zI (sp)), .int (zI (ou))]))]) (wr := [(nw, .inl (dA 0, 12, .inl (fun i => zI (g i))))]) C (k_X9_refused l D dA m9 xt nw tr di ke ik wt (rf) (sz) (ac) (ld) (sp) (ou) 1 (by omega)) (cwV 1 C.1.2.2.2.2 (hw_V tw_m_RX9_122 tw_i_X9_refused tw_s_X9_refused tw_n_RX9 tw_k_X9_refused) rfl rfl rfl (by decide +kernel) ⟨Nat.le_of_ble_eq_true rfl, Nat.le_of_ble_eq_true rfl⟩) (hv_pm [0] rfl) rfl 0 7 rfl rfl rfl (Nat.le_of_ble_eq_true rfl) dX9_gardener_32 ⟨Nat.le_of_ble_eq_true rfl, Nat.le_of_ble_eq_true rfl⟩ (fun _ _ => ?_)
    have e9 : xc_gar a b = some hx_IOE := by unfold xc_gar; (repeat' split) <;> first | rfl | (exfalso; omega)
    have e8 : mz_k2 hx_IOE (xc_gar a b) = 1 := by rw [e9]; exact mz_k2a
    refine hv_eqst (st' := [.int (zI (zB (decide ((0 : Int) < 1))))]) rfl ?_
    refine hv_weq (ws' := [(m9, .inr (7, [.int (zI (1)), .ref xt, .int (zI (sz)), .ref nw, .ref tr, .ref di, .int (zI (ac)), .ref ke, .ref ik, .ref wt, .int (zI (ld)), .int (zI (sp)), .int (zI (ou))])), (nw, .inl (dA 0, 12, .inl (fun i => zI (g i))))]) (rfl) ?_
    refine hv_if_eq C dX9_gardener_35 (tgt := 40) (by decide) zB_0 (fun hc35 => ?_) (fun hc35 => ?_)
    · exact absurd hc35 (by omega)
    · refine hv_iconst C dX9_gardener_38 (v := zI (0)) rfl ?_
      exact hv_iret C M dX9_gardener_39 rfl rfl () trivial (by rw [e9]; rfl) [] (List.Perm.of_eq (by rw [e8, e9]; rfl)) (Nat.le_refl _) (Nat.le_refl _)

set_option maxHeartbeats 4000000 in
set_option maxRecDepth 100000 in
theorem k_X9_setting (l : Launch) (D : va_G) (dA : Nat → ClassId) (m9 xt nw tr di ke ik wt : Nat) (rf sz ac ld sp ou : Int) (g : Nat → Int) (hg : WF g) (z : Int) (hz : -2147483648 ≤ z ∧ z < 2147483648) : hv_Ct l yX9_setting (hw_W yX9_setting cX9_setting 2 (some .int)) 2 D dA [.ref m9, .int (zI (z))] ([(m9, .inr (7, [.int (zI (rf)), .ref xt, .int (zI (sz)), .ref nw, .ref tr, .ref di, .int (zI (ac)), .ref ke, .ref ik, .ref wt, .int (zI (ld)), .int (zI (sp)), .int (zI (ou))])), (nw, .inl (dA 0, 12, .inl (fun i => zI (g i))))]) 0 0 (S := Unit) (fun _ => mz_w (xc_set z) (some (.int (zI (if z = 0 then g 4 else g 5)))) (some (.int (zI 0)))) (fun _ => True) (fun u => mz_w (xc_set z) ([(m9, .inr (7, [.int (zI (mz_k1 (xc_set z))), .ref xt, .int (zI (sz)), .ref nw, .ref tr, .ref di, .int (zI (ac)), .ref ke, .ref ik, .ref wt, .int (zI (ld)), .int (zI (sp)), .int (zI (ou))])), (nw, .inl (dA 0, 12, .inl (fun i => zI (g i))))]) ([(m9, .inr (7, [.int (zI (mz_k1 (xc_set z))), .ref xt, .int (zI (sz)), .ref nw, .ref tr, .ref di, .int (zI (ac)), .ref ke, .ref ik, .ref wt, .int (zI (ld)), .int (zI (sp)), .int (zI (ou))])), (nw, .inl (dA 0, 12, .inl (fun i => zI (g i))))])) := by
  have hg0 := hg.1
  have hg1 := hg.e1
  have hgx := hg.x
  have hg5 := hg.2.2.2.2.2
  have hgR := hg.R
  have hgS := hg.S
  have hge0 := hg.e0
  have hge5 := hg.e5
  refine hv_of (cc := cX9_setting) (maxL := 2) (ret := (some .int)) (own := RX9) rfl (by decide) rfl (Nat.le_of_ble_eq_true rfl) ?_
  intro p e s m args below meth c C M
  refine hv_lveq (lv' := [(0, .ref m9), (1, .int (zI (z)))]) rfl ?_
  refine hv_aload_n C dX9_setting_0 0 rfl ?_
  refine hv_iload_n C dX9_setting_1 1 rfl ?_
  refine hv_i2l C dX9_setting_2 (v := (zL (z))) (by exact zL_i (by omega)) ?_
  refine hv_lconst C dX9_setting_3 (v := 0) rfl ?_
  refine hv_lconst C dX9_setting_4 (v := 1) rfl ?_
  refine hv_eqst (st' := [.long (zL (1)), .long (zL (0)), .long (zL (z)), .ref m9]) (by rfl) ?_
  refine hv_callS (As := [.long (zL (z)), .long (zL (0)), .long (zL (1))]) (rest := [.ref m9]) (wc := []) (wr := [(m9, .inr (7, [.int (zI (rf)), .ref xt, .int (zI (sz)), .ref nw, .ref tr, .ref di, .int (zI (ac)), .ref ke, .ref ik, .ref wt, .int (zI (ld)), .int (zI (sp)), .int (zI (ou))])), (nw, .inl (dA 0, 12, .inl (fun i => zI (g i))))]) C (k_X9_in l D dA (z) (by omega) (0) (by omega) (1) (by omega)) (va_cwS 3 C.1.2.2.2.2 (hw_S tw_m_RX9_43 tw_t_X9_in tw_n_RX9 tw_k_X9_in) rfl rfl rfl (by decide +kernel) ⟨Nat.le_of_ble_eq_true rfl, Nat.le_of_ble_eq_true rfl⟩) (hv_pm [] rfl) rfl rfl (Nat.le_of_ble_eq_true rfl) dX9_setting_5 ⟨Nat.le_of_ble_eq_true rfl, Nat.le_of_ble_eq_true rfl⟩ (fun _ _ => ?_)
  refine hv_eqst (st' := [.int (zI (zB (decide (0 ≤ z ∧ z ≤ 1)))), .ref m9]) rfl ?_
  refine hv_weq (ws' := [(m9, .inr (7, [.int (zI (rf)), .ref xt, .int (zI (sz)), .ref nw, .ref tr, .ref di, .int (zI (ac)), .ref ke, .ref ik, .ref wt, .int (zI (ld)), .int (zI (sp)), .int (zI (ou))])), (nw, .inl (dA 0, 12, .inl (fun i => zI (g i))))]) (rfl) ?_
  refine hv_if_eq C dX9_setting_8 (tgt := 15) (by decide) zB_0 (fun hc8 => ?_) (fun hc8 => ?_)
  · refine hv_iconst C dX9_setting_15 (v := zI (1)) rfl ?_
    refine hv_callV (As := [.int (zI (1))]) (rest := []) (wc := [(m9, .inr (7, [.int (zI (rf)), .ref xt, .int (zI (sz)), .ref nw, .ref tr, .ref di, .int (zI (ac)), .ref ke, .ref ik, .ref wt, .int (zI (ld)), .int (zI (sp)), .int (zI (ou))]))]) (wr := [(nw, .inl (dA 0, 12, .inl (fun i => zI (g i))))]) C (k_X9_refused l D dA m9 xt nw tr di ke ik wt (rf) (sz) (ac) (ld) (sp) (ou) 1 (by omega)) (cwV 1 C.1.2.2.2.2 (hw_V tw_m_RX9_122 tw_i_X9_refused tw_s_X9_refused tw_n_RX9 tw_k_X9_refused) rfl rfl rfl (by decide +kernel) ⟨Nat.le_of_ble_eq_true rfl, Nat.le_of_ble_eq_true rfl⟩) (hv_pm [0] rfl) rfl 0 7 rfl rfl rfl (Nat.le_of_ble_eq_true rfl) dX9_setting_16 ⟨Nat.le_of_ble_eq_true rfl, Nat.le_of_ble_eq_true rfl⟩ (fun _ _ => ?_)
    have e9 : xc_set z = some hx_IAE := by unfold xc_set; (repeat' split) <;> first | rfl | (exfalso; omega)
    have e8 : mz_k1 (xc_set z) = 1 := by rw [e9]; exact mz_k1s
    refine hv_eqst (st' := [.int (zI (zB (decide ((0 : Int) < 1))))]) rfl ?_
    refine hv_weq (ws' := [(m9, .inr (7, [.int (zI (1)), .ref xt, .int (zI (sz)), .ref nw, .ref tr, .ref di, .int (zI (ac)), .ref ke, .ref ik, .ref wt, .int (zI (ld)), .int (zI (sp)), .int (zI (ou))])), (nw, .inl (dA 0, 12, .inl (fun i => zI (g i))))]) (rfl) ?_
    refine hv_if_eq C dX9_setting_19 (tgt := 24) (by decide) zB_0 (fun hc19 => ?_) (fun hc19 => ?_)
    · exact absurd hc19 (by omega)
    · refine hv_iconst C dX9_setting_22 (v := zI (0)) rfl ?_
      exact hv_iret C M dX9_setting_23 rfl rfl () trivial (by rw [e9]; rfl) [] (List.Perm.of_eq (by rw [e8, e9]; rfl)) (Nat.le_refl _) (Nat.le_refl _)
  · refine hv_iconst C dX9_setting_11 (v := zI (0)) rfl ?_
    refine hv_goto C dX9_setting_12 (tgt := 16) (by decide) ?_
    refine hv_callV (As := [.int (zI (0))]) (rest := []) (wc := [(m9, .inr (7, [.int (zI (rf)), .ref xt, .int (zI (sz)), .ref nw, .ref tr, .ref di, .int (zI (ac)), .ref ke, .ref ik, .ref wt, .int (zI (ld)), .int (zI (sp)), .int (zI (ou))]))]) (wr := [(nw, .inl (dA 0, 12, .inl (fun i => zI (g i))))]) C (k_X9_refused l D dA m9 xt nw tr di ke ik wt (rf) (sz) (ac) (ld) (sp) (ou) 0 (by omega)) (cwV 1 C.1.2.2.2.2 (hw_V tw_m_RX9_122 tw_i_X9_refused tw_s_X9_refused tw_n_RX9 tw_k_X9_refused) rfl rfl rfl (by decide +kernel) ⟨Nat.le_of_ble_eq_true rfl, Nat.le_of_ble_eq_true rfl⟩) (hv_pm [0] rfl) rfl 0 7 rfl rfl rfl (Nat.le_of_ble_eq_true rfl) dX9_setting_16 ⟨Nat.le_of_ble_eq_true rfl, Nat.le_of_ble_eq_true rfl⟩ (fun _ _ => ?_)
    have e9 : xc_set z = none := by unfold xc_set; (repeat' split) <;> first | rfl | (exfalso; omega)
    have e8 : mz_k1 (xc_set z) = 0 := by rw [e9]; exact mz_k1n
    refine hv_eqst (st' := [.int (zI (zB (decide ((0 : Int) < 0))))]) rfl ?_
    refine hv_weq (ws' := [(m9, .inr (7, [.int (zI (0)), .ref xt, .int (zI (sz)), .ref nw, .ref tr, .ref di, .int (zI (ac)), .ref ke, .ref ik, .ref wt, .int (zI (ld)), .int (zI (sp)), .int (zI (ou))])), (nw, .inl (dA 0, 12, .inl (fun i => zI (g i))))]) (rfl) ?_
    refine hv_if_eq C dX9_setting_19 (tgt := 24) (by decide) zB_0 (fun hc19 => ?_) (fun hc19 => ?_)
    · refine hv_aload_n C dX9_setting_24 0 rfl ?_
      refine hv_get C dX9_setting_25 (fun w h => hw_c (tw_u_9 w h)) 0 (ci := 7) rfl rfl 3 (by decide) (hw_c tw_f_RX9_13) rfl ?_
      refine hv_iconst C dX9_setting_28 (v := zI (4)) rfl ?_
      refine hv_iload_n C dX9_setting_29 1 rfl ?_
      refine hv_iadd C dX9_setting_30 (zI_add _ _) ?_
      refine hv_iald C dX9_setting_31 1 rfl ((4 + z).toNat) (zI_ix (by omega)) (by omega) (by omega) (v := (zI (if z = 0 then g 4 else g 5))) (by rcases (show z = 0 ∨ z = 1 by omega) with rfl | rfl <;> rfl) ?_
      exact hv_iret C M dX9_setting_32 rfl rfl () trivial (by rw [e9]; rfl) [] (List.Perm.of_eq (by rw [e8, e9]; rfl)) (Nat.le_refl _) (Nat.le_refl _)
    · exact absurd hc19 (by omega)

def mz_sh (d : Nat → Int) : Nat → Nat → Int
  | 0 => d
  | k + 1 => sp_set (mz_sh d k) k (d (k + 12))
theorem mz_sh_eq (d : Nat → Int) : ∀ k i, mz_sh d k i = if i < k then d (i + 12) else d i
  | 0, i => by rw [if_neg (by omega)]; rfl
  | k + 1, i => by
    rw [mz_sh, sp_set]
    by_cases q : i = k
    · rw [if_pos q, if_pos (by omega), q]
    · rw [if_neg q, mz_sh_eq d k i]
      by_cases q2 : i < k
      · rw [if_pos q2, if_pos (by omega)]
      · rw [if_neg q2, if_neg (by omega)]

set_option maxHeartbeats 4000000 in
set_option maxRecDepth 100000 in
theorem k_X9_remember (l : Launch) (D : va_G) (dA : Nat → ClassId) (m9 xt nw tr di ke ik wt : Nat) (rf zs ld sp ou : Int) (g : Nat → Int) (nx sz j : Nat) (ct : Nat → Nat → Int) (d : Nat → Int) (hsz : sz ≤ 14) (hnx : nx ≤ 14) (ej : j = nx % 14) (hD : mz_D nx sz ct d) : hv_Ct l yX9_remember (hw_W yX9_remember cX9_remember 2 none) 1 D dA [.ref m9] ([(m9, .inr (7, [.int (zI (rf)), .ref xt, .int (zI (zs)), .ref nw, .ref tr, .ref di, .int (zI ((sz : Int))), .ref ke, .ref ik, .ref wt, .int (zI (ld)), .int (zI (sp)), .int (zI (ou))])), (di, .inl (dA 0, 168, .inl (fun i => zI (d i)))), (nw, .inl (dA 0, 12, .inl (fun i => zI (g i))))]) 0 0 (S := Nat → Int) (fun _ => none) (fun u => mz_D (j + 1) (min (sz + 1) 14) (mo_ct ct j g) u) (fun u => [(m9, .inr (7, [.int (zI (rf)), .ref xt, .int (zI (zs)), .ref nw, .ref tr, .ref di, .int (zI (((min (sz + 1) 14 : Nat) : Int))), .ref ke, .ref ik, .ref wt, .int (zI (ld)), .int (zI (sp)), .int (zI (ou))])), (di, .inl (dA 0, 168, .inl (fun i => zI (u i)))), (nw, .inl (dA 0, 12, .inl (fun i => zI (g i))))]) := by
  refine hv_of (cc := cX9_remember) (maxL := 2) (ret := none) (own := RX9) rfl (by decide) rfl (Nat.le_of_ble_eq_true rfl) ?_
  intro p e s m args below meth c C M
  refine hv_lveq (lv' := [(0, .ref m9)]) rfl ?_
  refine hv_aload_n C dX9_remember_0 0 rfl ?_
  refine hv_get C dX9_remember_1 (fun w h => hw_c (tw_u_9 w h)) 0 (ci := 7) rfl rfl 6 (by decide) (hw_c tw_f_RX9_166) rfl ?_
  refine hv_bipush C dX9_remember_4 (v := zI (14)) (by decide +kernel) ?_
  refine hv_icmp_ne C dX9_remember_6 (tgt := 49) (by decide) (zI_ne (by omega)) (fun hc6 => ?_) (fun hc6 => ?_)
  · refine hv_aload_n C dX9_remember_49 0 rfl ?_
    refine hv_get C dX9_remember_50 (fun w h => hw_c (tw_u_9 w h)) 0 (ci := 7) rfl rfl 3 (by decide) (hw_c tw_f_RX9_13) rfl ?_
    refine hv_iconst C dX9_remember_53 (v := zI (0)) rfl ?_
    refine hv_aload_n C dX9_remember_54 0 rfl ?_
    refine hv_get C dX9_remember_55 (fun w h => hw_c (tw_u_9 w h)) 0 (ci := 7) rfl rfl 5 (by decide) (hw_c tw_f_RX9_19) rfl ?_
    refine hv_bipush C dX9_remember_58 (v := zI (12)) (by decide +kernel) ?_
    refine hv_aload_n C dX9_remember_60 0 rfl ?_
    refine hv_get C dX9_remember_61 (fun w h => hw_c (tw_u_9 w h)) 0 (ci := 7) rfl rfl 6 (by decide) (hw_c tw_f_RX9_166) rfl ?_
    refine hv_imul C dX9_remember_64 (zI_mul _ _) ?_
    refine hv_callS (As := [.ref nw, .int (zI (0)), .ref di, .int (zI ((12) * ((sz : Int))))]) (rest := []) (wc := [(nw, .inl (dA 0, 12, .inl (fun i => zI (g i)))), (di, .inl (dA 0, 168, .inl (fun i => zI (d i))))]) (wr := [(m9, .inr (7, [.int (zI (rf)), .ref xt, .int (zI (zs)), .ref nw, .ref tr, .ref di, .int (zI ((sz : Int))), .ref ke, .ref ik, .ref wt, .int (zI (ld)), .int (zI (sp)), .int (zI (ou))]))]) C (k_X9_copyState l D dA nw di 12 168 g (d) 0 (12 * sz) rfl (by omega) (by omega) (by omega) (by omega) (by omega)) (va_cwS 4 C.1.2.2.2.2 (hw_S tw_m_RX9_162 tw_t_X9_copyState tw_n_RX9 tw_k_X9_copyState) rfl rfl rfl (by decide +kernel) ⟨Nat.le_of_ble_eq_true rfl, Nat.le_of_ble_eq_true rfl⟩) (hv_pm [2, 1] rfl) rfl rfl (Nat.le_of_ble_eq_true rfl) dX9_remember_65 ⟨Nat.le_of_ble_eq_true rfl, Nat.le_of_ble_eq_true rfl⟩ (fun _ _ => ?_)
    refine hv_eqst (st' := []) rfl ?_
    refine hv_weq (ws' := [(nw, .inl (dA 0, 12, .inl (fun i => zI (g i)))), (di, .inl (dA 0, 168, .inl (fun i => zI ((mz_c (d) g 0 (12 * sz) 12) i)))), (m9, .inr (7, [.int (zI (rf)), .ref xt, .int (zI (zs)), .ref nw, .ref tr, .ref di, .int (zI ((sz : Int))), .ref ke, .ref ik, .ref wt, .int (zI (ld)), .int (zI (sp)), .int (zI (ou))]))]) (rfl) ?_
    refine hv_srt [2, 1, 0] (ws' := [(m9, .inr (7, [.int (zI (rf)), .ref xt, .int (zI (zs)), .ref nw, .ref tr, .ref di, .int (zI ((sz : Int))), .ref ke, .ref ik, .ref wt, .int (zI (ld)), .int (zI (sp)), .int (zI (ou))])), (di, .inl (dA 0, 168, .inl (fun i => zI ((mz_c (d) g 0 (12 * sz) 12) i)))), (nw, .inl (dA 0, 12, .inl (fun i => zI (g i))))]) rfl ?_
    refine hv_aload_n C dX9_remember_68 0 rfl ?_
    refine hv_dup C dX9_remember_69 rfl ?_
    refine hv_get C dX9_remember_70 (fun w h => hw_c (tw_u_9 w h)) 0 (ci := 7) rfl rfl 6 (by decide) (hw_c tw_f_RX9_166) rfl ?_
    refine hv_iconst C dX9_remember_73 (v := zI (1)) rfl ?_
    refine hv_iadd C dX9_remember_74 (z := zI (((min (sz + 1) 14 : Nat) : Int))) ((zI_add _ _).trans (zI_c (by omega))) ?_
    refine hv_put C dX9_remember_75 (fun w h => hw_c (tw_u_9 w h)) tyX9 tyX9_ok nmX9 0 (ci := 7) (ty := .int) rfl rfl 6 (by decide) (hw_c tw_f_RX9_166) rfl rfl rfl rfl (Nat.le_of_ble_eq_true rfl) ?_
    refine hv_weq (ws' := [(m9, .inr (7, [.int (zI (rf)), .ref xt, .int (zI (zs)), .ref nw, .ref tr, .ref di, .int (zI (((min (sz + 1) 14 : Nat) : Int))), .ref ke, .ref ik, .ref wt, .int (zI (ld)), .int (zI (sp)), .int (zI (ou))])), (di, .inl (dA 0, 168, .inl (fun i => zI ((mz_c (d) g 0 (12 * sz) 12) i)))), (nw, .inl (dA 0, 12, .inl (fun i => zI (g i))))]) rfl ?_
    exact hv_vret C M dX9_remember_78 rfl (mz_c (d) g 0 (12 * sz) 12) (show mz_D (j + 1) (min (sz + 1) 14) (mo_ct ct j g) _ from by rw [show min (sz + 1) 14 = sz + 1 by omega]; exact mz_D_new (by omega) ej hD (fun i hi => by rw [mz_c_eq, if_neg (by omega)]) (fun i hi => by rw [mz_c_eq, if_pos (by omega)]; congr 1; omega)) rfl [] (List.Perm.of_eq (by first | rfl | exact (List.append_nil _).symm)) (Nat.le_refl _) (Nat.le_refl _)
  · refine hv_iconst C dX9_remember_9 (v := zI (0)) rfl ?_
    refine hv_istore_n C dX9_remember_10 (lw := [(1, .int (zI (0))), (0, .ref m9)]) (by decide) rfl ?_
    refine hv_loop (σ := Nat) (fun n9 x => x + n9 = 156) (fun x => [(m9, .inr (7, [.int (zI (rf)), .ref xt, .int (zI (zs)), .ref nw, .ref tr, .ref di, .int (zI ((sz : Int))), .ref ke, .ref ik, .ref wt, .int (zI (ld)), .int (zI (sp)), .int (zI (ou))])), (di, .inl (dA 0, 168, .inl (fun i => zI ((mz_sh d x) i)))), (nw, .inl (dA 0, 12, .inl (fun i => zI (g i))))]) (fun x => [(1, .int (zI ((x : Int)))), (0, .ref m9)]) (fun x => []) (fun _ => 0) (fun _ => 0) (156) (0) (Nat.zero_add _) (⟨rfl, rfl, rfl, rfl, rfl⟩) (fun n9 x hI ih => ?_)
    obtain ⟨i, rfl⟩ : ∃ i, i = x := ⟨x, rfl⟩
    refine hv_iload_n C dX9_remember_11 0 rfl ?_
    refine hv_sipush C dX9_remember_12 (v := zI (156)) (by decide +kernel) ?_
    refine hv_icmp_ge C dX9_remember_15 (tgt := 39) (by decide) (zI_le (by omega)) (fun hc15 => ?_) (fun hc15 => ?_)
    · obtain rfl : i = 156 := (by omega)
      refine hv_aload_n C dX9_remember_39 1 rfl ?_
      refine hv_dup C dX9_remember_40 rfl ?_
      refine hv_get C dX9_remember_41 (fun w h => hw_c (tw_u_9 w h)) 0 (ci := 7) rfl rfl 6 (by decide) (hw_c tw_f_RX9_166) rfl ?_
      refine hv_iconst C dX9_remember_44 (v := zI (1)) rfl ?_
      refine hv_isub C dX9_remember_45 (z := zI (((sz - 1 : Nat) : Int))) ((zI_sub _ _).trans (zI_c (by omega))) ?_
      refine hv_put C dX9_remember_46 (fun w h => hw_c (tw_u_9 w h)) tyX9 tyX9_ok nmX9 0 (ci := 7) (ty := .int) rfl rfl 6 (by decide) (hw_c tw_f_RX9_166) rfl rfl rfl rfl (Nat.le_of_ble_eq_true rfl) ?_
      refine hv_weq (ws' := [(m9, .inr (7, [.int (zI (rf)), .ref xt, .int (zI (zs)), .ref nw, .ref tr, .ref di, .int (zI (((sz - 1 : Nat) : Int))), .ref ke, .ref ik, .ref wt, .int (zI (ld)), .int (zI (sp)), .int (zI (ou))])), (di, .inl (dA 0, 168, .inl (fun i => zI ((mz_sh d 156) i)))), (nw, .inl (dA 0, 12, .inl (fun i => zI (g i))))]) rfl ?_
      refine hv_aload_n C dX9_remember_49 1 rfl ?_
      refine hv_get C dX9_remember_50 (fun w h => hw_c (tw_u_9 w h)) 0 (ci := 7) rfl rfl 3 (by decide) (hw_c tw_f_RX9_13) rfl ?_
      refine hv_iconst C dX9_remember_53 (v := zI (0)) rfl ?_
      refine hv_aload_n C dX9_remember_54 1 rfl ?_
      refine hv_get C dX9_remember_55 (fun w h => hw_c (tw_u_9 w h)) 0 (ci := 7) rfl rfl 5 (by decide) (hw_c tw_f_RX9_19) rfl ?_
      refine hv_bipush C dX9_remember_58 (v := zI (12)) (by decide +kernel) ?_
      refine hv_aload_n C dX9_remember_60 1 rfl ?_
      refine hv_get C dX9_remember_61 (fun w h => hw_c (tw_u_9 w h)) 0 (ci := 7) rfl rfl 6 (by decide) (hw_c tw_f_RX9_166) rfl ?_
      refine hv_imul C dX9_remember_64 (zI_mul _ _) ?_
      refine hv_callS (As := [.ref nw, .int (zI (0)), .ref di, .int (zI ((12) * (((sz - 1 : Nat) : Int))))]) (rest := []) (wc := [(nw, .inl (dA 0, 12, .inl (fun i => zI (g i)))), (di, .inl (dA 0, 168, .inl (fun i => zI ((mz_sh d 156) i))))]) (wr := [(m9, .inr (7, [.int (zI (rf)), .ref xt, .int (zI (zs)), .ref nw, .ref tr, .ref di, .int (zI (((sz - 1 : Nat) : Int))), .ref ke, .ref ik, .ref wt, .int (zI (ld)), .int (zI (sp)), .int (zI (ou))]))]) C (k_X9_copyState l D dA nw di 12 168 g ((mz_sh d 156)) 0 156 rfl (by omega) (by omega) (by omega) (by omega) (by omega)) (va_cwS 4 C.1.2.2.2.2 (hw_S tw_m_RX9_162 tw_t_X9_copyState tw_n_RX9 tw_k_X9_copyState) rfl rfl rfl (by decide +kernel) ⟨Nat.le_of_ble_eq_true rfl, Nat.le_of_ble_eq_true rfl⟩) (hv_pm [2, 1] rfl) rfl rfl (Nat.le_of_ble_eq_true rfl) dX9_remember_65 ⟨Nat.le_of_ble_eq_true rfl, Nat.le_of_ble_eq_true rfl⟩ (fun _ _ => ?_)
      refine hv_eqst (st' := []) rfl ?_
      refine hv_weq (ws' := [(nw, .inl (dA 0, 12, .inl (fun i => zI (g i)))), (di, .inl (dA 0, 168, .inl (fun i => zI ((mz_c ((mz_sh d 156)) g 0 156 12) i)))), (m9, .inr (7, [.int (zI (rf)), .ref xt, .int (zI (zs)), .ref nw, .ref tr, .ref di, .int (zI (((sz - 1 : Nat) : Int))), .ref ke, .ref ik, .ref wt, .int (zI (ld)), .int (zI (sp)), .int (zI (ou))]))]) (rfl) ?_
      refine hv_srt [2, 1, 0] (ws' := [(m9, .inr (7, [.int (zI (rf)), .ref xt, .int (zI (zs)), .ref nw, .ref tr, .ref di, .int (zI (((sz - 1 : Nat) : Int))), .ref ke, .ref ik, .ref wt, .int (zI (ld)), .int (zI (sp)), .int (zI (ou))])), (di, .inl (dA 0, 168, .inl (fun i => zI ((mz_c ((mz_sh d 156)) g 0 156 12) i)))), (nw, .inl (dA 0, 12, .inl (fun i => zI (g i))))]) rfl ?_
      refine hv_aload_n C dX9_remember_68 1 rfl ?_
      refine hv_dup C dX9_remember_69 rfl ?_
      refine hv_get C dX9_remember_70 (fun w h => hw_c (tw_u_9 w h)) 0 (ci := 7) rfl rfl 6 (by decide) (hw_c tw_f_RX9_166) rfl ?_
      refine hv_iconst C dX9_remember_73 (v := zI (1)) rfl ?_
      refine hv_iadd C dX9_remember_74 (z := zI (((min (sz + 1) 14 : Nat) : Int))) ((zI_add _ _).trans (zI_c (by omega))) ?_
      refine hv_put C dX9_remember_75 (fun w h => hw_c (tw_u_9 w h)) tyX9 tyX9_ok nmX9 0 (ci := 7) (ty := .int) rfl rfl 6 (by decide) (hw_c tw_f_RX9_166) rfl rfl rfl rfl (Nat.le_of_ble_eq_true rfl) ?_
      refine hv_weq (ws' := [(m9, .inr (7, [.int (zI (rf)), .ref xt, .int (zI (zs)), .ref nw, .ref tr, .ref di, .int (zI (((min (sz + 1) 14 : Nat) : Int))), .ref ke, .ref ik, .ref wt, .int (zI (ld)), .int (zI (sp)), .int (zI (ou))])), (di, .inl (dA 0, 168, .inl (fun i => zI ((mz_c ((mz_sh d 156)) g 0 156 12) i)))), (nw, .inl (dA 0, 12, .inl (fun i => zI (g i))))]) rfl ?_
      exact hv_vret C M dX9_remember_78 rfl (mz_c ((mz_sh d 156)) g 0 156 12) (show mz_D (j + 1) (min (sz + 1) 14) (mo_ct ct j g) _ from by obtain rfl : sz = 14 := (by omega); exact mz_D_full hnx ej hD (fun i hi => by rw [mz_c_eq, if_neg (by omega), mz_sh_eq, if_pos (by omega)]) (fun i hi => by rw [mz_c_eq, if_pos (by omega)]; congr 1; omega)) rfl [] (List.Perm.of_eq (by first | rfl | exact (List.append_nil _).symm)) (Nat.le_refl _) (Nat.le_refl _)
    · refine hv_aload_n C dX9_remember_18 1 rfl ?_
      refine hv_get C dX9_remember_19 (fun w h => hw_c (tw_u_9 w h)) 0 (ci := 7) rfl rfl 5 (by decide) (hw_c tw_f_RX9_19) rfl ?_
      refine hv_iload_n C dX9_remember_22 0 rfl ?_
      refine hv_aload_n C dX9_remember_23 1 rfl ?_
      refine hv_get C dX9_remember_24 (fun w h => hw_c (tw_u_9 w h)) 0 (ci := 7) rfl rfl 5 (by decide) (hw_c tw_f_RX9_19) rfl ?_
      refine hv_iload_n C dX9_remember_27 0 rfl ?_
      refine hv_bipush C dX9_remember_28 (v := zI (12)) (by decide +kernel) ?_
      refine hv_iadd C dX9_remember_30 (zI_add _ _) ?_
      refine hv_iald C dX9_remember_31 1 rfl (i + 12) (zI_ix (by omega)) (by omega) (by omega) (v := (zI (d (i + 12)))) (by rw [mz_sh_eq, if_neg (by omega)]) ?_
      refine hv_iast C dX9_remember_32 1 rfl (i) (zI_ix (by omega)) (by omega) (by omega) ?_
      refine hv_weq (ws' := [(m9, .inr (7, [.int (zI (rf)), .ref xt, .int (zI (zs)), .ref nw, .ref tr, .ref di, .int (zI ((sz : Int))), .ref ke, .ref ik, .ref wt, .int (zI (ld)), .int (zI (sp)), .int (zI (ou))])), (di, .inl (dA 0, 168, .inl (fun q => zI (mz_sh d (i + 1) q)))), (nw, .inl (dA 0, 12, .inl (fun i => zI (g i))))]) (by rw [sp_upd]; rfl) ?_
      refine hv_iinc C dX9_remember_33 0 rfl (v := zI (((i + 1 : Nat) : Int))) ((zI_add _ _).trans (zI_c (by omega))) (by decide) (lw := [(1, .int (zI (((i + 1 : Nat) : Int)))), (0, .ref m9)]) rfl ?_
      refine hv_goto C dX9_remember_36 (tgt := 11) (by decide) ?_
      refine hv_lsub [0, 1] (lv' := [(1, .int (zI (((i + 1 : Nat) : Int)))), (0, .ref m9)]) rfl ?_
      obtain ⟨k, rfl⟩ : ∃ k, n9 = k + 1 := ⟨n9 - 1, by omega⟩
      exact ih k (i + 1) (by omega) (by omega)

def mz_pl (g : Nat → Int) : Nat → Nat → Int
  | 0 => g
  | k + 1 => sp_set (mz_pl g k) (6 + k) 0
theorem mz_pl_eq {g : Nat → Int} {S h : Int} : ∀ i, i < 12 → mz_pl (sp_set (sp_set (sp_set g 0 S) 1 h) 3 0) 6 i = sp_plant g S h i := by
  intro i hi
  rcases (show i = 0 ∨ i = 1 ∨ i = 2 ∨ i = 3 ∨ i = 4 ∨ i = 5 ∨ i = 6 ∨ i = 7 ∨ i = 8 ∨ i = 9 ∨ i = 10 ∨ i = 11 by omega) with rfl | rfl | rfl | rfl | rfl | rfl | rfl | rfl | rfl | rfl | rfl | rfl <;> simp [sp_set, mz_pl, sp_plant]

set_option maxHeartbeats 4000000 in
set_option maxRecDepth 100000 in
theorem k_X9_plant (l : Launch) (D : va_G) (dA : Nat → ClassId) (m9 xt nw tr di ke ik wt : Nat) (rf zs ld sp ou : Int) (g : Nat → Int) (hg : WF g) (nx sz j : Nat) (ct : Nat → Nat → Int) (d : Nat → Int) (hsz : sz ≤ 14) (hnx : nx ≤ 14) (ej : j = nx % 14) (hD : mz_D nx sz ct d) (a : Int) (ha : -2147483648 ≤ a ∧ a < 2147483648) (b : Int) (hb : -2147483648 ≤ b ∧ b < 2147483648) : hv_Ct l yX9_plant (hw_W yX9_plant cX9_plant 4 (some .int)) 3 D dA [.ref m9, .int (zI (a)), .int (zI (b))] ([(m9, .inr (7, [.int (zI (rf)), .ref xt, .int (zI (zs)), .ref nw, .ref tr, .ref di, .int (zI ((sz : Int))), .ref ke, .ref ik, .ref wt, .int (zI (ld)), .int (zI (sp)), .int (zI (ou))])), (di, .inl (dA 0, 168, .inl (fun i => zI (d i)))), (nw, .inl (dA 0, 12, .inl (fun i => zI (g i))))]) 0 0 (S := Nat → Int) (fun _ => mz_w (xc_plant a b) (some (.int (zI ((sp_lv b.toNat : Int))))) (some (.int (zI 0)))) (fun u => xc_plant a b = none → mz_D (j + 1) (min (sz + 1) 14) (mo_ct ct j g) u) (fun u => mz_w (xc_plant a b) ([(m9, .inr (7, [.int (zI (mz_k1 (xc_plant a b))), .ref xt, .int (zI (zs)), .ref nw, .ref tr, .ref di, .int (zI (((min (sz + 1) 14 : Nat) : Int))), .ref ke, .ref ik, .ref wt, .int (zI (ld)), .int (zI (sp)), .int (zI (ou))])), (di, .inl (dA 0, 168, .inl (fun i => zI (u i)))), (nw, .inl (dA 0, 12, .inl (fun i => zI ((sp_plant g a b) i))))]) ([(m9, .inr (7, [.int (zI (mz_k1 (xc_plant a b))), .ref xt, .int (zI (zs)), .ref nw, .ref tr, .ref di, .int (zI ((sz : Int))), .ref ke, .ref ik, .ref wt, .int (zI (ld)), .int (zI (sp)), .int (zI (ou))])), (di, .inl (dA 0, 168, .inl (fun i => zI (d i)))), (nw, .inl (dA 0, 12, .inl (fun i => zI (g i))))])) := by
  have hg0 := hg.1
  have hg1 := hg.e1
  have hgx := hg.x
  have hg5 := hg.2.2.2.2.2
  have hgR := hg.R
  have hgS := hg.S
  have hge0 := hg.e0
  have hge5 := hg.e5
  refine hv_of (cc := cX9_plant) (maxL := 4) (ret := (some .int)) (own := RX9) rfl (by decide) rfl (Nat.le_of_ble_eq_true rfl) ?_
  intro p e s m args below meth c C M
  refine hv_lveq (lv' := [(0, .ref m9), (1, .int (zI (a))), (2, .int (zI (b)))]) rfl ?_
  refine hv_aload_n C dX9_plant_0 0 rfl ?_
  refine hv_iload_n C dX9_plant_1 1 rfl ?_
  refine hv_i2l C dX9_plant_2 (v := (zL (a))) (by exact zL_i (by omega)) ?_
  refine hv_ldc2 C dX9_plant_3 (hw_c tw_o_RX9_171) ?_
  refine hv_ldc2 C dX9_plant_6 (hw_c tw_o_RX9_173) ?_
  refine hv_eqst (st' := [.long (zL (6)), .long (zL (2)), .long (zL (a)), .ref m9]) (by rfl) ?_
  refine hv_callS (As := [.long (zL (a)), .long (zL (2)), .long (zL (6))]) (rest := [.ref m9]) (wc := []) (wr := [(m9, .inr (7, [.int (zI (rf)), .ref xt, .int (zI (zs)), .ref nw, .ref tr, .ref di, .int (zI ((sz : Int))), .ref ke, .ref ik, .ref wt, .int (zI (ld)), .int (zI (sp)), .int (zI (ou))])), (di, .inl (dA 0, 168, .inl (fun i => zI (d i)))), (nw, .inl (dA 0, 12, .inl (fun i => zI (g i))))]) C (k_X9_in l D dA (a) (by omega) (2) (by omega) (6) (by omega)) (va_cwS 3 C.1.2.2.2.2 (hw_S tw_m_RX9_43 tw_t_X9_in tw_n_RX9 tw_k_X9_in) rfl rfl rfl (by decide +kernel) ⟨Nat.le_of_ble_eq_true rfl, Nat.le_of_ble_eq_true rfl⟩) (hv_pm [] rfl) rfl rfl (Nat.le_of_ble_eq_true rfl) dX9_plant_9 ⟨Nat.le_of_ble_eq_true rfl, Nat.le_of_ble_eq_true rfl⟩ (fun _ _ => ?_)
  refine hv_eqst (st' := [.int (zI (zB (decide (2 ≤ a ∧ a ≤ 6)))), .ref m9]) rfl ?_
  refine hv_weq (ws' := [(m9, .inr (7, [.int (zI (rf)), .ref xt, .int (zI (zs)), .ref nw, .ref tr, .ref di, .int (zI ((sz : Int))), .ref ke, .ref ik, .ref wt, .int (zI (ld)), .int (zI (sp)), .int (zI (ou))])), (di, .inl (dA 0, 168, .inl (fun i => zI (d i)))), (nw, .inl (dA 0, 12, .inl (fun i => zI (g i))))]) (rfl) ?_
  refine hv_if_eq C dX9_plant_12 (tgt := 35) (by decide) zB_0 (fun hc12 => ?_) (fun hc12 => ?_)
  · refine hv_iconst C dX9_plant_35 (v := zI (1)) rfl ?_
    refine hv_callV (As := [.int (zI (1))]) (rest := []) (wc := [(m9, .inr (7, [.int (zI (rf)), .ref xt, .int (zI (zs)), .ref nw, .ref tr, .ref di, .int (zI ((sz : Int))), .ref ke, .ref ik, .ref wt, .int (zI (ld)), .int (zI (sp)), .int (zI (ou))]))]) (wr := [(di, .inl (dA 0, 168, .inl (fun i => zI (d i)))), (nw, .inl (dA 0, 12, .inl (fun i => zI (g i))))]) C (k_X9_refused l D dA m9 xt nw tr di ke ik wt (rf) (zs) ((sz : Int)) (ld) (sp) (ou) 1 (by omega)) (cwV 1 C.1.2.2.2.2 (hw_V tw_m_RX9_122 tw_i_X9_refused tw_s_X9_refused tw_n_RX9 tw_k_X9_refused) rfl rfl rfl (by decide +kernel) ⟨Nat.le_of_ble_eq_true rfl, Nat.le_of_ble_eq_true rfl⟩) (hv_pm [0] rfl) rfl 0 7 rfl rfl rfl (Nat.le_of_ble_eq_true rfl) dX9_plant_36 ⟨Nat.le_of_ble_eq_true rfl, Nat.le_of_ble_eq_true rfl⟩ (fun _ _ => ?_)
    have e9 : xc_plant a b = some hx_IAE := by unfold xc_plant; (repeat' split) <;> first | rfl | (exfalso; omega)
    have e8 : mz_k1 (xc_plant a b) = 1 := by rw [e9]; exact mz_k1s
    refine hv_eqst (st' := [.int (zI (zB (decide ((0 : Int) < 1))))]) rfl ?_
    refine hv_weq (ws' := [(m9, .inr (7, [.int (zI (1)), .ref xt, .int (zI (zs)), .ref nw, .ref tr, .ref di, .int (zI ((sz : Int))), .ref ke, .ref ik, .ref wt, .int (zI (ld)), .int (zI (sp)), .int (zI (ou))])), (di, .inl (dA 0, 168, .inl (fun i => zI (d i)))), (nw, .inl (dA 0, 12, .inl (fun i => zI (g i))))]) (rfl) ?_
    refine hv_if_eq C dX9_plant_39 (tgt := 44) (by decide) zB_0 (fun hc39 => ?_) (fun hc39 => ?_)
    · exact absurd hc39 (by omega)
    · refine hv_iconst C dX9_plant_42 (v := zI (0)) rfl ?_
      exact hv_iret C M dX9_plant_43 rfl rfl d (fun q => absurd (e9.symm.trans q) (by simp)) (by rw [e9]; rfl) [] (List.Perm.of_eq (by rw [e8, e9]; rfl)) (Nat.le_refl _) (Nat.le_refl _)
  · refine hv_iload_n C dX9_plant_15 2 rfl ?_
    refine hv_i2l C dX9_plant_16 (v := (zL (b))) (by exact zL_i (by omega)) ?_
    refine hv_lconst C dX9_plant_17 (v := 0) rfl ?_
    refine hv_iload_n C dX9_plant_18 1 rfl ?_
    refine hv_callS (As := [.int (zI (a))]) (rest := [.long (0), .long (zL (b)), .ref m9]) (wc := []) (wr := [(m9, .inr (7, [.int (zI (rf)), .ref xt, .int (zI (zs)), .ref nw, .ref tr, .ref di, .int (zI ((sz : Int))), .ref ke, .ref ik, .ref wt, .int (zI (ld)), .int (zI (sp)), .int (zI (ou))])), (di, .inl (dA 0, 168, .inl (fun i => zI (d i)))), (nw, .inl (dA 0, 12, .inl (fun i => zI (g i))))]) C (k_X9_all l D dA a.toNat (by omega) (by omega)) (va_cwS 1 C.1.2.2.2.2 (hw_S tw_m_RX9_84 tw_t_X9_all tw_n_RX9 tw_k_X9_all) rfl rfl rfl (by decide +kernel) ⟨Nat.le_of_ble_eq_true rfl, Nat.le_of_ble_eq_true rfl⟩) (hv_pm [] rfl) rfl rfl (Nat.le_of_ble_eq_true rfl) dX9_plant_19 ⟨Nat.le_of_ble_eq_true rfl, Nat.le_of_ble_eq_true rfl⟩ (fun _ _ => ?_)
    have h46 := sp_4S (S := a.toNat) (by omega)
    have h4p : (0 : Int) ≤ ((4 ^ a.toNat : Nat) : Int) := Int.natCast_nonneg _
    refine hv_eqst (st' := [.int (zI (((4 ^ a.toNat : Nat) : Int))), .long (0), .long (zL (b)), .ref m9]) rfl ?_
    refine hv_weq (ws' := [(m9, .inr (7, [.int (zI (rf)), .ref xt, .int (zI (zs)), .ref nw, .ref tr, .ref di, .int (zI ((sz : Int))), .ref ke, .ref ik, .ref wt, .int (zI (ld)), .int (zI (sp)), .int (zI (ou))])), (di, .inl (dA 0, 168, .inl (fun i => zI (d i)))), (nw, .inl (dA 0, 12, .inl (fun i => zI (g i))))]) (rfl) ?_
    refine hv_iconst C dX9_plant_22 (v := zI (1)) rfl ?_
    refine hv_isub C dX9_plant_23 (zI_sub _ _) ?_
    refine hv_i2l C dX9_plant_24 (v := (zL ((((4 ^ a.toNat : Nat) : Int)) - (1)))) (by exact zL_i (by omega)) ?_
    refine hv_eqst (st' := [.long (zL ((((4 ^ a.toNat : Nat) : Int)) - (1))), .long (zL (0)), .long (zL (b)), .ref m9]) (by rfl) ?_
    refine hv_callS (As := [.long (zL (b)), .long (zL (0)), .long (zL ((((4 ^ a.toNat : Nat) : Int)) - (1)))]) (rest := [.ref m9]) (wc := []) (wr := [(m9, .inr (7, [.int (zI (rf)), .ref xt, .int (zI (zs)), .ref nw, .ref tr, .ref di, .int (zI ((sz : Int))), .ref ke, .ref ik, .ref wt, .int (zI (ld)), .int (zI (sp)), .int (zI (ou))])), (di, .inl (dA 0, 168, .inl (fun i => zI (d i)))), (nw, .inl (dA 0, 12, .inl (fun i => zI (g i))))]) C (k_X9_in l D dA (b) (by omega) (0) (by omega) ((((4 ^ a.toNat : Nat) : Int)) - (1)) (by omega)) (va_cwS 3 C.1.2.2.2.2 (hw_S tw_m_RX9_43 tw_t_X9_in tw_n_RX9 tw_k_X9_in) rfl rfl rfl (by decide +kernel) ⟨Nat.le_of_ble_eq_true rfl, Nat.le_of_ble_eq_true rfl⟩) (hv_pm [] rfl) rfl rfl (Nat.le_of_ble_eq_true rfl) dX9_plant_25 ⟨Nat.le_of_ble_eq_true rfl, Nat.le_of_ble_eq_true rfl⟩ (fun _ _ => ?_)
    refine hv_eqst (st' := [.int (zI (zB (decide (0 ≤ b ∧ b ≤ (((4 ^ a.toNat : Nat) : Int)) - (1))))), .ref m9]) rfl ?_
    refine hv_weq (ws' := [(m9, .inr (7, [.int (zI (rf)), .ref xt, .int (zI (zs)), .ref nw, .ref tr, .ref di, .int (zI ((sz : Int))), .ref ke, .ref ik, .ref wt, .int (zI (ld)), .int (zI (sp)), .int (zI (ou))])), (di, .inl (dA 0, 168, .inl (fun i => zI (d i)))), (nw, .inl (dA 0, 12, .inl (fun i => zI (g i))))]) (rfl) ?_
    refine hv_if_eq C dX9_plant_28 (tgt := 35) (by decide) zB_0 (fun hc28 => ?_) (fun hc28 => ?_)
    · refine hv_iconst C dX9_plant_35 (v := zI (1)) rfl ?_
      refine hv_callV (As := [.int (zI (1))]) (rest := []) (wc := [(m9, .inr (7, [.int (zI (rf)), .ref xt, .int (zI (zs)), .ref nw, .ref tr, .ref di, .int (zI ((sz : Int))), .ref ke, .ref ik, .ref wt, .int (zI (ld)), .int (zI (sp)), .int (zI (ou))]))]) (wr := [(di, .inl (dA 0, 168, .inl (fun i => zI (d i)))), (nw, .inl (dA 0, 12, .inl (fun i => zI (g i))))]) C (k_X9_refused l D dA m9 xt nw tr di ke ik wt (rf) (zs) ((sz : Int)) (ld) (sp) (ou) 1 (by omega)) (cwV 1 C.1.2.2.2.2 (hw_V tw_m_RX9_122 tw_i_X9_refused tw_s_X9_refused tw_n_RX9 tw_k_X9_refused) rfl rfl rfl (by decide +kernel) ⟨Nat.le_of_ble_eq_true rfl, Nat.le_of_ble_eq_true rfl⟩) (hv_pm [0] rfl) rfl 0 7 rfl rfl rfl (Nat.le_of_ble_eq_true rfl) dX9_plant_36 ⟨Nat.le_of_ble_eq_true rfl, Nat.le_of_ble_eq_true rfl⟩ (fun _ _ => ?_)
      have e9 : xc_plant a b = some hx_IAE := by unfold xc_plant; (repeat' split) <;> first | rfl | (exfalso; omega)
      have e8 : mz_k1 (xc_plant a b) = 1 := by rw [e9]; exact mz_k1s
      refine hv_eqst (st' := [.int (zI (zB (decide ((0 : Int) < 1))))]) rfl ?_
      refine hv_weq (ws' := [(m9, .inr (7, [.int (zI (1)), .ref xt, .int (zI (zs)), .ref nw, .ref tr, .ref di, .int (zI ((sz : Int))), .ref ke, .ref ik, .ref wt, .int (zI (ld)), .int (zI (sp)), .int (zI (ou))])), (di, .inl (dA 0, 168, .inl (fun i => zI (d i)))), (nw, .inl (dA 0, 12, .inl (fun i => zI (g i))))]) (rfl) ?_
      refine hv_if_eq C dX9_plant_39 (tgt := 44) (by decide) zB_0 (fun hc39 => ?_) (fun hc39 => ?_)
      · exact absurd hc39 (by omega)
      · refine hv_iconst C dX9_plant_42 (v := zI (0)) rfl ?_
        exact hv_iret C M dX9_plant_43 rfl rfl d (fun q => absurd (e9.symm.trans q) (by simp)) (by rw [e9]; rfl) [] (List.Perm.of_eq (by rw [e8, e9]; rfl)) (Nat.le_refl _) (Nat.le_refl _)
    · refine hv_iconst C dX9_plant_31 (v := zI (0)) rfl ?_
      refine hv_goto C dX9_plant_32 (tgt := 36) (by decide) ?_
      refine hv_callV (As := [.int (zI (0))]) (rest := []) (wc := [(m9, .inr (7, [.int (zI (rf)), .ref xt, .int (zI (zs)), .ref nw, .ref tr, .ref di, .int (zI ((sz : Int))), .ref ke, .ref ik, .ref wt, .int (zI (ld)), .int (zI (sp)), .int (zI (ou))]))]) (wr := [(di, .inl (dA 0, 168, .inl (fun i => zI (d i)))), (nw, .inl (dA 0, 12, .inl (fun i => zI (g i))))]) C (k_X9_refused l D dA m9 xt nw tr di ke ik wt (rf) (zs) ((sz : Int)) (ld) (sp) (ou) 0 (by omega)) (cwV 1 C.1.2.2.2.2 (hw_V tw_m_RX9_122 tw_i_X9_refused tw_s_X9_refused tw_n_RX9 tw_k_X9_refused) rfl rfl rfl (by decide +kernel) ⟨Nat.le_of_ble_eq_true rfl, Nat.le_of_ble_eq_true rfl⟩) (hv_pm [0] rfl) rfl 0 7 rfl rfl rfl (Nat.le_of_ble_eq_true rfl) dX9_plant_36 ⟨Nat.le_of_ble_eq_true rfl, Nat.le_of_ble_eq_true rfl⟩ (fun _ _ => ?_)
      have e9 : xc_plant a b = none := by unfold xc_plant; (repeat' split) <;> first | rfl | (exfalso; omega)
      have e8 : mz_k1 (xc_plant a b) = 0 := by rw [e9]; exact mz_k1n
      refine hv_eqst (st' := [.int (zI (zB (decide ((0 : Int) < 0))))]) rfl ?_
      refine hv_weq (ws' := [(m9, .inr (7, [.int (zI (0)), .ref xt, .int (zI (zs)), .ref nw, .ref tr, .ref di, .int (zI ((sz : Int))), .ref ke, .ref ik, .ref wt, .int (zI (ld)), .int (zI (sp)), .int (zI (ou))])), (di, .inl (dA 0, 168, .inl (fun i => zI (d i)))), (nw, .inl (dA 0, 12, .inl (fun i => zI (g i))))]) (rfl) ?_
      refine hv_if_eq C dX9_plant_39 (tgt := 44) (by decide) zB_0 (fun hc39 => ?_) (fun hc39 => ?_)
      · refine hv_aload_n C dX9_plant_44 0 rfl ?_
        refine hv_callV (As := []) (rest := []) (wc := [(m9, .inr (7, [.int (zI (0)), .ref xt, .int (zI (zs)), .ref nw, .ref tr, .ref di, .int (zI ((sz : Int))), .ref ke, .ref ik, .ref wt, .int (zI (ld)), .int (zI (sp)), .int (zI (ou))])), (di, .inl (dA 0, 168, .inl (fun i => zI (d i)))), (nw, .inl (dA 0, 12, .inl (fun i => zI (g i))))]) (wr := []) C (k_X9_remember l D dA m9 xt nw tr di ke ik wt (0) zs ld sp ou g nx sz j ct d hsz hnx ej hD) (cwV 0 C.1.2.2.2.2 (hw_V tw_m_RX9_175 tw_i_X9_remember tw_s_X9_remember tw_n_RX9 tw_k_X9_remember) rfl rfl rfl (by decide +kernel) ⟨Nat.le_of_ble_eq_true rfl, Nat.le_of_ble_eq_true rfl⟩) (hv_pm [0, 0, 0] rfl) rfl 0 7 rfl rfl rfl (Nat.le_of_ble_eq_true rfl) dX9_plant_45 ⟨Nat.le_of_ble_eq_true rfl, Nat.le_of_ble_eq_true rfl⟩ (fun u7 hu7 => ?_)
        refine hv_eqst (st' := []) rfl ?_
        refine hv_weq (ws' := [(m9, .inr (7, [.int (zI (0)), .ref xt, .int (zI (zs)), .ref nw, .ref tr, .ref di, .int (zI (((min (sz + 1) 14 : Nat) : Int))), .ref ke, .ref ik, .ref wt, .int (zI (ld)), .int (zI (sp)), .int (zI (ou))])), (di, .inl (dA 0, 168, .inl (fun i => zI (u7 i)))), (nw, .inl (dA 0, 12, .inl (fun i => zI (g i))))]) (rfl) ?_
        refine hv_aload_n C dX9_plant_48 0 rfl ?_
        refine hv_get C dX9_plant_49 (fun w h => hw_c (tw_u_9 w h)) 0 (ci := 7) rfl rfl 3 (by decide) (hw_c tw_f_RX9_13) rfl ?_
        refine hv_iconst C dX9_plant_52 (v := zI (0)) rfl ?_
        refine hv_iload_n C dX9_plant_53 1 rfl ?_
        refine hv_iast C dX9_plant_54 2 rfl (0) (rfl) (by omega) (by omega) ?_
        refine hv_weq (ws' := [(m9, .inr (7, [.int (zI (0)), .ref xt, .int (zI (zs)), .ref nw, .ref tr, .ref di, .int (zI (((min (sz + 1) 14 : Nat) : Int))), .ref ke, .ref ik, .ref wt, .int (zI (ld)), .int (zI (sp)), .int (zI (ou))])), (di, .inl (dA 0, 168, .inl (fun i => zI (u7 i)))), (nw, .inl (dA 0, 12, .inl (fun i => zI ((sp_set g 0 a) i))))]) (by rw [sp_upd]; rfl) ?_
        refine hv_aload_n C dX9_plant_55 0 rfl ?_
        refine hv_get C dX9_plant_56 (fun w h => hw_c (tw_u_9 w h)) 0 (ci := 7) rfl rfl 3 (by decide) (hw_c tw_f_RX9_13) rfl ?_
        refine hv_iconst C dX9_plant_59 (v := zI (1)) rfl ?_
        refine hv_iload_n C dX9_plant_60 2 rfl ?_
        refine hv_iast C dX9_plant_61 2 rfl (1) (rfl) (by omega) (by omega) ?_
        refine hv_weq (ws' := [(m9, .inr (7, [.int (zI (0)), .ref xt, .int (zI (zs)), .ref nw, .ref tr, .ref di, .int (zI (((min (sz + 1) 14 : Nat) : Int))), .ref ke, .ref ik, .ref wt, .int (zI (ld)), .int (zI (sp)), .int (zI (ou))])), (di, .inl (dA 0, 168, .inl (fun i => zI (u7 i)))), (nw, .inl (dA 0, 12, .inl (fun i => zI ((sp_set (sp_set g 0 a) 1 b) i))))]) (by rw [sp_upd]; rfl) ?_
        refine hv_aload_n C dX9_plant_62 0 rfl ?_
        refine hv_get C dX9_plant_63 (fun w h => hw_c (tw_u_9 w h)) 0 (ci := 7) rfl rfl 3 (by decide) (hw_c tw_f_RX9_13) rfl ?_
        refine hv_iconst C dX9_plant_66 (v := zI (3)) rfl ?_
        refine hv_iconst C dX9_plant_67 (v := zI (0)) rfl ?_
        refine hv_iast C dX9_plant_68 2 rfl (3) (rfl) (by omega) (by omega) ?_
        refine hv_weq (ws' := [(m9, .inr (7, [.int (zI (0)), .ref xt, .int (zI (zs)), .ref nw, .ref tr, .ref di, .int (zI (((min (sz + 1) 14 : Nat) : Int))), .ref ke, .ref ik, .ref wt, .int (zI (ld)), .int (zI (sp)), .int (zI (ou))])), (di, .inl (dA 0, 168, .inl (fun i => zI (u7 i)))), (nw, .inl (dA 0, 12, .inl (fun i => zI ((sp_set (sp_set (sp_set g 0 a) 1 b) 3 0) i))))]) (by rw [sp_upd]; rfl) ?_
        refine hv_bipush C dX9_plant_69 (v := zI (6)) (by decide +kernel) ?_
        refine hv_istore_n C dX9_plant_71 (lw := [(3, .int (zI (6))), (0, .ref m9), (1, .int (zI (a))), (2, .int (zI (b)))]) (by decide) rfl ?_
        refine hv_loop (σ := Nat) (fun n9 x => x + n9 = 6) (fun x => [(m9, .inr (7, [.int (zI (0)), .ref xt, .int (zI (zs)), .ref nw, .ref tr, .ref di, .int (zI (((min (sz + 1) 14 : Nat) : Int))), .ref ke, .ref ik, .ref wt, .int (zI (ld)), .int (zI (sp)), .int (zI (ou))])), (di, .inl (dA 0, 168, .inl (fun i => zI (u7 i)))), (nw, .inl (dA 0, 12, .inl (fun i => zI ((mz_pl (sp_set (sp_set (sp_set g 0 a) 1 b) 3 0) x) i))))]) (fun x => [(3, .int (zI (((6 + x : Nat) : Int)))), (0, .ref m9), (1, .int (zI (a))), (2, .int (zI (b)))]) (fun x => []) (fun _ => 0) (fun _ => 0) (6) (0) (Nat.zero_add _) (⟨rfl, rfl, rfl, rfl, rfl⟩) (fun n9 x hI ih => ?_)
        obtain ⟨q, rfl⟩ : ∃ q, q = x := ⟨x, rfl⟩
        refine hv_iload_n C dX9_plant_72 0 rfl ?_
        refine hv_bipush C dX9_plant_73 (v := zI (12)) (by decide +kernel) ?_
        refine hv_icmp_ge C dX9_plant_75 (tgt := 91) (by decide) (zI_le (by omega)) (fun hc75 => ?_) (fun hc75 => ?_)
        · obtain rfl : q = 6 := (by omega)
          refine hv_acg 2 (f' := fun i => zI (sp_plant g a b i)) rfl (fun i hi => ?_) rfl ?_
          · exact congrArg zI (mz_pl_eq i hi)
          refine hv_iload_n C dX9_plant_91 3 rfl ?_
          refine hv_callS (As := [.int (zI (b))]) (rest := []) (wc := []) (wr := [(m9, .inr (7, [.int (zI (0)), .ref xt, .int (zI (zs)), .ref nw, .ref tr, .ref di, .int (zI (((min (sz + 1) 14 : Nat) : Int))), .ref ke, .ref ik, .ref wt, .int (zI (ld)), .int (zI (sp)), .int (zI (ou))])), (di, .inl (dA 0, 168, .inl (fun i => zI (u7 i)))), (nw, .inl (dA 0, 12, .inl (fun i => zI ((sp_plant g a b) i))))]) C (k_X9_count l D dA b.toNat (by omega) (by omega)) (va_cwS 1 C.1.2.2.2.2 (hw_S tw_m_RX9_101 tw_t_X9_count tw_n_RX9 tw_k_X9_count) rfl rfl rfl (by decide +kernel) ⟨Nat.le_of_ble_eq_true rfl, Nat.le_of_ble_eq_true rfl⟩) (hv_pm [] rfl) rfl rfl (Nat.le_of_ble_eq_true rfl) dX9_plant_92 ⟨Nat.le_of_ble_eq_true rfl, Nat.le_of_ble_eq_true rfl⟩ (fun _ _ => ?_)
          refine hv_eqst (st' := [.int (zI ((sp_lv b.toNat : Int)))]) rfl ?_
          refine hv_weq (ws' := [(m9, .inr (7, [.int (zI (0)), .ref xt, .int (zI (zs)), .ref nw, .ref tr, .ref di, .int (zI (((min (sz + 1) 14 : Nat) : Int))), .ref ke, .ref ik, .ref wt, .int (zI (ld)), .int (zI (sp)), .int (zI (ou))])), (di, .inl (dA 0, 168, .inl (fun i => zI (u7 i)))), (nw, .inl (dA 0, 12, .inl (fun i => zI ((sp_plant g a b) i))))]) (rfl) ?_
          exact hv_iret C M dX9_plant_95 rfl rfl u7 (fun _ => hu7) (by rw [e9]; rfl) [] (List.Perm.of_eq (by rw [e8, e9]; rfl)) (Nat.le_refl _) (Nat.le_refl _)
        · refine hv_aload_n C dX9_plant_78 1 rfl ?_
          refine hv_get C dX9_plant_79 (fun w h => hw_c (tw_u_9 w h)) 0 (ci := 7) rfl rfl 3 (by decide) (hw_c tw_f_RX9_13) rfl ?_
          refine hv_iload_n C dX9_plant_82 0 rfl ?_
          refine hv_iconst C dX9_plant_83 (v := zI (0)) rfl ?_
          refine hv_iast C dX9_plant_84 2 rfl (6 + q) (zI_ix (by omega)) (by omega) (by omega) ?_
          refine hv_weq (ws' := [(m9, .inr (7, [.int (zI (0)), .ref xt, .int (zI (zs)), .ref nw, .ref tr, .ref di, .int (zI (((min (sz + 1) 14 : Nat) : Int))), .ref ke, .ref ik, .ref wt, .int (zI (ld)), .int (zI (sp)), .int (zI (ou))])), (di, .inl (dA 0, 168, .inl (fun i => zI (u7 i)))), (nw, .inl (dA 0, 12, .inl (fun i => zI ((mz_pl (sp_set (sp_set (sp_set g 0 a) 1 b) 3 0) (q + 1)) i))))]) (by rw [sp_upd]; rfl) ?_
          refine hv_iinc C dX9_plant_85 0 rfl (v := zI (((6 + (q + 1) : Nat) : Int))) ((zI_add _ _).trans (zI_c (by omega))) (by decide) (lw := [(3, .int (zI (((6 + (q + 1) : Nat) : Int)))), (0, .ref m9), (1, .int (zI (a))), (2, .int (zI (b)))]) rfl ?_
          refine hv_goto C dX9_plant_88 (tgt := 72) (by decide) ?_
          refine hv_lsub [0, 1, 2, 3] (lv' := [(3, .int (zI (((6 + (q + 1) : Nat) : Int)))), (0, .ref m9), (1, .int (zI (a))), (2, .int (zI (b)))]) rfl ?_
          obtain ⟨k, rfl⟩ : ∃ k, n9 = k + 1 := ⟨n9 - 1, by omega⟩
          exact ih k (q + 1) (by omega) (by omega)
      · exact absurd hc39 (by omega)

theorem mz_req1 {g : Nat → Int} {a b k : Int} (h : ¬ ((0 ≤ a ∧ a < g 0) ∧ 0 ≤ b ∧ b < g 0)) : xc_req g a b k = some hx_IOE := by
  unfold xc_req xc_stem
  by_cases q : 0 ≤ a ∧ a < g 0
  · rw [if_pos q, if_neg (fun z => h ⟨q, z⟩)]; rfl
  · rw [if_neg q]; rfl
theorem mz_req2 {g : Nat → Int} {a b k : Int} (h : (0 ≤ a ∧ a < g 0) ∧ 0 ≤ b ∧ b < g 0) (h2 : ¬ (1 ≤ k ∧ k ≤ 3 ∧ a ≤ b ∧ b - a < g 5)) : xc_req g a b k = some hx_IAE := by
  unfold xc_req xc_stem
  rw [if_pos h.1, if_pos h.2, if_neg h2]; rfl
theorem mz_req0 {g : Nat → Int} {a b k : Int} (h : (0 ≤ a ∧ a < g 0) ∧ 0 ≤ b ∧ b < g 0) (h2 : 1 ≤ k ∧ k ≤ 3 ∧ a ≤ b ∧ b - a < g 5) : xc_req g a b k = none := by
  unfold xc_req xc_stem
  rw [if_pos h.1, if_pos h.2, if_pos h2]; rfl
theorem mz_can_iff {g : Nat → Int} (hg : WF g) {a b k : Int} (h : (0 ≤ a ∧ a < g 0) ∧ 0 ≤ b ∧ b < g 0) (h2 : 1 ≤ k ∧ k ≤ 3 ∧ a ≤ b ∧ b - a < g 5) : sp_ca (gS g) (gR g) (gH g) a b k = true ↔ ¬ sp_cc (gH g) (100 * a.toNat + 10 * b.toNat + 3) = gH g := by
  have h0 := hg.1
  have e0 := hg.e0
  have e5 := hg.e5
  rw [sp_ca_iff]
  constructor
  · intro q
    exact sp_cn_f (by omega) (by omega) (by omega) q.2
  · intro q
    exact ⟨by omega, sp_cn_t (by omega) (by omega) (by omega) q⟩

set_option maxHeartbeats 4000000 in
set_option maxRecDepth 100000 in
theorem k_X9_clip (l : Launch) (D : va_G) (dA : Nat → ClassId) (m9 xt nw tr di ke ik wt : Nat) (rf zs ld sp ou : Int) (g : Nat → Int) (hg : WF g) (nx sz j : Nat) (ct : Nat → Nat → Int) (d : Nat → Int) (hsz : sz ≤ 14) (hnx : nx ≤ 14) (ej : j = nx % 14) (hD : mz_D nx sz ct d) (a : Int) (ha : -2147483648 ≤ a ∧ a < 2147483648) (b : Int) (hb : -2147483648 ≤ b ∧ b < 2147483648) (k : Int) (hk : -2147483648 ≤ k ∧ k < 2147483648) : hv_Ct l yX9_clip (hw_W yX9_clip cX9_clip 4 (some .int)) 5 D dA [.ref m9, .int (zI (a)), .int (zI (b)), .int (zI (k))] ([(m9, .inr (7, [.int (zI (rf)), .ref xt, .int (zI (zs)), .ref nw, .ref tr, .ref di, .int (zI ((sz : Int))), .ref ke, .ref ik, .ref wt, .int (zI (ld)), .int (zI (sp)), .int (zI (ou))])), (di, .inl (dA 0, 168, .inl (fun i => zI (d i)))), (nw, .inl (dA 0, 12, .inl (fun i => zI (g i))))]) 0 0 (S := Nat → Int) (fun _ => mz_w (xc_clip g a b k) (some (.int (zI (sp_fi g (gH g) (sp_bh (gS g) (gW g) (gH g) (100 * a + 10 * b + k).toNat))))) (some (.int (zI 0)))) (fun u => xc_clip g a b k = none → mz_D (j + 1) (min (sz + 1) 14) (mo_ct ct j g) u) (fun u => mz_w (xc_clip g a b k) ([(m9, .inr (7, [.int (zI (mz_k3 hx_IOE hx_IAE (xc_clip g a b k))), .ref xt, .int (zI (zs)), .ref nw, .ref tr, .ref di, .int (zI (((min (sz + 1) 14 : Nat) : Int))), .ref ke, .ref ik, .ref wt, .int (zI (ld)), .int (zI (sp)), .int (zI (ou))])), (di, .inl (dA 0, 168, .inl (fun i => zI (u i)))), (nw, .inl (dA 0, 12, .inl (fun i => zI ((ox_clip g (100 * a + 10 * b + k).toNat) i))))]) ([(m9, .inr (7, [.int (zI (mz_k3 hx_IOE hx_IAE (xc_clip g a b k))), .ref xt, .int (zI (zs)), .ref nw, .ref tr, .ref di, .int (zI ((sz : Int))), .ref ke, .ref ik, .ref wt, .int (zI (ld)), .int (zI (sp)), .int (zI (ou))])), (di, .inl (dA 0, 168, .inl (fun i => zI (d i)))), (nw, .inl (dA 0, 12, .inl (fun i => zI (g i))))])) := by
  have hg0 := hg.1
  have hg1 := hg.e1
  have hgx := hg.x
  have hg5 := hg.2.2.2.2.2
  have hgR := hg.R
  have hgS := hg.S
  have hge0 := hg.e0
  have hge5 := hg.e5
  refine hv_of (cc := cX9_clip) (maxL := 4) (ret := (some .int)) (own := RX9) rfl (by decide) rfl (Nat.le_of_ble_eq_true rfl) ?_
  intro p e s m args below meth c C M
  refine hv_lveq (lv' := [(0, .ref m9), (1, .int (zI (a))), (2, .int (zI (b))), (3, .int (zI (k)))]) rfl ?_
  refine hv_aload_n C dX9_clip_0 0 rfl ?_
  refine hv_aload_n C dX9_clip_1 0 rfl ?_
  refine hv_get C dX9_clip_2 (fun w h => hw_c (tw_u_9 w h)) 0 (ci := 7) rfl rfl 3 (by decide) (hw_c tw_f_RX9_13) rfl ?_
  refine hv_iload_n C dX9_clip_5 1 rfl ?_
  refine hv_callS (As := [.ref nw, .int (zI (a))]) (rest := [.ref m9]) (wc := [(nw, .inl (dA 0, 12, .inl (fun i => zI (g i))))]) (wr := [(m9, .inr (7, [.int (zI (rf)), .ref xt, .int (zI (zs)), .ref nw, .ref tr, .ref di, .int (zI ((sz : Int))), .ref ke, .ref ik, .ref wt, .int (zI (ld)), .int (zI (sp)), .int (zI (ou))])), (di, .inl (dA 0, 168, .inl (fun i => zI (d i))))]) C (k_X9_isStem l D dA nw g (by omega) (a) (by omega)) (va_cwS 2 C.1.2.2.2.2 (hw_S tw_m_RX9_53 tw_t_X9_isStem tw_n_RX9 tw_k_X9_isStem) rfl rfl rfl (by decide +kernel) ⟨Nat.le_of_ble_eq_true rfl, Nat.le_of_ble_eq_true rfl⟩) (hv_pm [2] rfl) rfl rfl (Nat.le_of_ble_eq_true rfl) dX9_clip_6 ⟨Nat.le_of_ble_eq_true rfl, Nat.le_of_ble_eq_true rfl⟩ (fun _ _ => ?_)
  refine hv_eqst (st' := [.int (zI (zB (decide (0 ≤ a ∧ a < g 0)))), .ref m9]) rfl ?_
  refine hv_weq (ws' := [(nw, .inl (dA 0, 12, .inl (fun i => zI (g i)))), (m9, .inr (7, [.int (zI (rf)), .ref xt, .int (zI (zs)), .ref nw, .ref tr, .ref di, .int (zI ((sz : Int))), .ref ke, .ref ik, .ref wt, .int (zI (ld)), .int (zI (sp)), .int (zI (ou))])), (di, .inl (dA 0, 168, .inl (fun i => zI (d i))))]) (rfl) ?_
  refine hv_srt [1, 1, 0] (ws' := [(m9, .inr (7, [.int (zI (rf)), .ref xt, .int (zI (zs)), .ref nw, .ref tr, .ref di, .int (zI ((sz : Int))), .ref ke, .ref ik, .ref wt, .int (zI (ld)), .int (zI (sp)), .int (zI (ou))])), (di, .inl (dA 0, 168, .inl (fun i => zI (d i)))), (nw, .inl (dA 0, 12, .inl (fun i => zI (g i))))]) rfl ?_
  refine hv_if_eq C dX9_clip_9 (tgt := 23) (by decide) zB_0 (fun hc9 => ?_) (fun hc9 => ?_)
  · refine hv_iconst C dX9_clip_23 (v := zI (1)) rfl ?_
    refine hv_goto C dX9_clip_24 (tgt := 68) (by decide) ?_
    refine hv_callV (As := [.int (zI (1))]) (rest := []) (wc := [(m9, .inr (7, [.int (zI (rf)), .ref xt, .int (zI (zs)), .ref nw, .ref tr, .ref di, .int (zI ((sz : Int))), .ref ke, .ref ik, .ref wt, .int (zI (ld)), .int (zI (sp)), .int (zI (ou))]))]) (wr := [(di, .inl (dA 0, 168, .inl (fun i => zI (d i)))), (nw, .inl (dA 0, 12, .inl (fun i => zI (g i))))]) C (k_X9_refused l D dA m9 xt nw tr di ke ik wt (rf) (zs) ((sz : Int)) (ld) (sp) (ou) 1 (by omega)) (cwV 1 C.1.2.2.2.2 (hw_V tw_m_RX9_122 tw_i_X9_refused tw_s_X9_refused tw_n_RX9 tw_k_X9_refused) rfl rfl rfl (by decide +kernel) ⟨Nat.le_of_ble_eq_true rfl, Nat.le_of_ble_eq_true rfl⟩) (hv_pm [0] rfl) rfl 0 7 rfl rfl rfl (Nat.le_of_ble_eq_true rfl) dX9_clip_68 ⟨Nat.le_of_ble_eq_true rfl, Nat.le_of_ble_eq_true rfl⟩ (fun _ _ => ?_)
    have e9 : xc_clip g a b k = some hx_IOE := by unfold xc_clip; exact xc_or_s (mz_req1 (by omega))
    have e8 : mz_k3 hx_IOE hx_IAE (xc_clip g a b k) = 1 := by rw [e9]; exact mz_k3a
    refine hv_eqst (st' := [.int (zI (zB (decide ((0 : Int) < 1))))]) rfl ?_
    refine hv_weq (ws' := [(m9, .inr (7, [.int (zI (1)), .ref xt, .int (zI (zs)), .ref nw, .ref tr, .ref di, .int (zI ((sz : Int))), .ref ke, .ref ik, .ref wt, .int (zI (ld)), .int (zI (sp)), .int (zI (ou))])), (di, .inl (dA 0, 168, .inl (fun i => zI (d i)))), (nw, .inl (dA 0, 12, .inl (fun i => zI (g i))))]) (rfl) ?_
    refine hv_if_eq C dX9_clip_71 (tgt := 76) (by decide) zB_0 (fun hc71 => ?_) (fun hc71 => ?_)
    · exact absurd hc71 (by omega)
    · refine hv_iconst C dX9_clip_74 (v := zI (0)) rfl ?_
      exact hv_iret C M dX9_clip_75 rfl rfl d (fun q => absurd (e9.symm.trans q) (by simp)) (by rw [e9]; rfl) [] (List.Perm.of_eq (by rw [e8, e9]; rfl)) (Nat.le_refl _) (Nat.le_refl _)
  · refine hv_aload_n C dX9_clip_12 0 rfl ?_
    refine hv_get C dX9_clip_13 (fun w h => hw_c (tw_u_9 w h)) 0 (ci := 7) rfl rfl 3 (by decide) (hw_c tw_f_RX9_13) rfl ?_
    refine hv_iload_n C dX9_clip_16 2 rfl ?_
    refine hv_callS (As := [.ref nw, .int (zI (b))]) (rest := [.ref m9]) (wc := [(nw, .inl (dA 0, 12, .inl (fun i => zI (g i))))]) (wr := [(m9, .inr (7, [.int (zI (rf)), .ref xt, .int (zI (zs)), .ref nw, .ref tr, .ref di, .int (zI ((sz : Int))), .ref ke, .ref ik, .ref wt, .int (zI (ld)), .int (zI (sp)), .int (zI (ou))])), (di, .inl (dA 0, 168, .inl (fun i => zI (d i))))]) C (k_X9_isStem l D dA nw g (by omega) (b) (by omega)) (va_cwS 2 C.1.2.2.2.2 (hw_S tw_m_RX9_53 tw_t_X9_isStem tw_n_RX9 tw_k_X9_isStem) rfl rfl rfl (by decide +kernel) ⟨Nat.le_of_ble_eq_true rfl, Nat.le_of_ble_eq_true rfl⟩) (hv_pm [2] rfl) rfl rfl (Nat.le_of_ble_eq_true rfl) dX9_clip_17 ⟨Nat.le_of_ble_eq_true rfl, Nat.le_of_ble_eq_true rfl⟩ (fun _ _ => ?_)
    refine hv_eqst (st' := [.int (zI (zB (decide (0 ≤ b ∧ b < g 0)))), .ref m9]) rfl ?_
    refine hv_weq (ws' := [(nw, .inl (dA 0, 12, .inl (fun i => zI (g i)))), (m9, .inr (7, [.int (zI (rf)), .ref xt, .int (zI (zs)), .ref nw, .ref tr, .ref di, .int (zI ((sz : Int))), .ref ke, .ref ik, .ref wt, .int (zI (ld)), .int (zI (sp)), .int (zI (ou))])), (di, .inl (dA 0, 168, .inl (fun i => zI (d i))))]) (rfl) ?_
    refine hv_srt [1, 1, 0] (ws' := [(m9, .inr (7, [.int (zI (rf)), .ref xt, .int (zI (zs)), .ref nw, .ref tr, .ref di, .int (zI ((sz : Int))), .ref ke, .ref ik, .ref wt, .int (zI (ld)), .int (zI (sp)), .int (zI (ou))])), (di, .inl (dA 0, 168, .inl (fun i => zI (d i)))), (nw, .inl (dA 0, 12, .inl (fun i => zI (g i))))]) rfl ?_
    refine hv_if_ne C dX9_clip_20 (tgt := 27) (by decide) zB_n0 (fun hc20 => ?_) (fun hc20 => ?_)
    · refine hv_aload_n C dX9_clip_27 0 rfl ?_
      refine hv_get C dX9_clip_28 (fun w h => hw_c (tw_u_9 w h)) 0 (ci := 7) rfl rfl 3 (by decide) (hw_c tw_f_RX9_13) rfl ?_
      refine hv_iload_n C dX9_clip_31 1 rfl ?_
      refine hv_iload_n C dX9_clip_32 2 rfl ?_
      refine hv_iload_n C dX9_clip_33 3 rfl ?_
      refine hv_callS (As := [.ref nw, .int (zI (a)), .int (zI (b)), .int (zI (k))]) (rest := [.ref m9]) (wc := [(nw, .inl (dA 0, 12, .inl (fun i => zI (g i))))]) (wr := [(m9, .inr (7, [.int (zI (rf)), .ref xt, .int (zI (zs)), .ref nw, .ref tr, .ref di, .int (zI ((sz : Int))), .ref ke, .ref ik, .ref wt, .int (zI (ld)), .int (zI (sp)), .int (zI (ou))])), (di, .inl (dA 0, 168, .inl (fun i => zI (d i))))]) C (k_X9_isClip l D dA nw g (by omega) a b k (by omega) (by omega) (by omega)) (va_cwS 4 C.1.2.2.2.2 (hw_S tw_m_RX9_57 tw_t_X9_isClip tw_n_RX9 tw_k_X9_isClip) rfl rfl rfl (by decide +kernel) ⟨Nat.le_of_ble_eq_true rfl, Nat.le_of_ble_eq_true rfl⟩) (hv_pm [2] rfl) rfl rfl (Nat.le_of_ble_eq_true rfl) dX9_clip_34 ⟨Nat.le_of_ble_eq_true rfl, Nat.le_of_ble_eq_true rfl⟩ (fun _ _ => ?_)
      refine hv_eqst (st' := [.int (zI (zB (decide (1 ≤ k ∧ k ≤ 3 ∧ a ≤ b ∧ b - a < g 5)))), .ref m9]) rfl ?_
      refine hv_weq (ws' := [(nw, .inl (dA 0, 12, .inl (fun i => zI (g i)))), (m9, .inr (7, [.int (zI (rf)), .ref xt, .int (zI (zs)), .ref nw, .ref tr, .ref di, .int (zI ((sz : Int))), .ref ke, .ref ik, .ref wt, .int (zI (ld)), .int (zI (sp)), .int (zI (ou))])), (di, .inl (dA 0, 168, .inl (fun i => zI (d i))))]) (rfl) ?_
      refine hv_srt [1, 1, 0] (ws' := [(m9, .inr (7, [.int (zI (rf)), .ref xt, .int (zI (zs)), .ref nw, .ref tr, .ref di, .int (zI ((sz : Int))), .ref ke, .ref ik, .ref wt, .int (zI (ld)), .int (zI (sp)), .int (zI (ou))])), (di, .inl (dA 0, 168, .inl (fun i => zI (d i)))), (nw, .inl (dA 0, 12, .inl (fun i => zI (g i))))]) rfl ?_
      refine hv_if_ne C dX9_clip_37 (tgt := 44) (by decide) zB_n0 (fun hc37 => ?_) (fun hc37 => ?_)
      · refine hv_aload_n C dX9_clip_44 0 rfl ?_
        refine hv_get C dX9_clip_45 (fun w h => hw_c (tw_u_9 w h)) 0 (ci := 7) rfl rfl 3 (by decide) (hw_c tw_f_RX9_13) rfl ?_
        refine hv_aload_n C dX9_clip_48 0 rfl ?_
        refine hv_get C dX9_clip_49 (fun w h => hw_c (tw_u_9 w h)) 0 (ci := 7) rfl rfl 3 (by decide) (hw_c tw_f_RX9_13) rfl ?_
        refine hv_iconst C dX9_clip_52 (v := zI (1)) rfl ?_
        refine hv_iald C dX9_clip_53 2 rfl (1) (rfl) (by omega) (by omega) (v := (zI (g 1))) rfl ?_
        refine hv_iload_n C dX9_clip_54 1 rfl ?_
        refine hv_iload_n C dX9_clip_55 2 rfl ?_
        refine hv_iload_n C dX9_clip_56 3 rfl ?_
        refine hv_callS (As := [.ref nw, .int (zI (g 1)), .int (zI (a)), .int (zI (b)), .int (zI (k))]) (rest := [.ref m9]) (wc := [(nw, .inl (dA 0, 12, .inl (fun i => zI (g i))))]) (wr := [(m9, .inr (7, [.int (zI (rf)), .ref xt, .int (zI (zs)), .ref nw, .ref tr, .ref di, .int (zI ((sz : Int))), .ref ke, .ref ik, .ref wt, .int (zI (ld)), .int (zI (sp)), .int (zI (ou))])), (di, .inl (dA 0, 168, .inl (fun i => zI (d i))))]) C (k_X9_canClip l D dA nw g hg (gH g) hg.e1 hgx a (by omega) b (by omega) k (by omega)) (va_cwS 5 C.1.2.2.2.2 (hw_S tw_m_RX9_80 tw_t_X9_canClip tw_n_RX9 tw_k_X9_canClip) rfl rfl rfl (by decide +kernel) ⟨Nat.le_of_ble_eq_true rfl, Nat.le_of_ble_eq_true rfl⟩) (hv_pm [2] rfl) rfl rfl (Nat.le_of_ble_eq_true rfl) dX9_clip_57 ⟨Nat.le_of_ble_eq_true rfl, Nat.le_of_ble_eq_true rfl⟩ (fun _ _ => ?_)
        refine hv_eqst (st' := [.int (zI (zB (sp_ca (gS g) (gR g) (gH g) a b k))), .ref m9]) rfl ?_
        refine hv_weq (ws' := [(nw, .inl (dA 0, 12, .inl (fun i => zI (g i)))), (m9, .inr (7, [.int (zI (rf)), .ref xt, .int (zI (zs)), .ref nw, .ref tr, .ref di, .int (zI ((sz : Int))), .ref ke, .ref ik, .ref wt, .int (zI (ld)), .int (zI (sp)), .int (zI (ou))])), (di, .inl (dA 0, 168, .inl (fun i => zI (d i))))]) (rfl) ?_
        refine hv_srt [1, 1, 0] (ws' := [(m9, .inr (7, [.int (zI (rf)), .ref xt, .int (zI (zs)), .ref nw, .ref tr, .ref di, .int (zI ((sz : Int))), .ref ke, .ref ik, .ref wt, .int (zI (ld)), .int (zI (sp)), .int (zI (ou))])), (di, .inl (dA 0, 168, .inl (fun i => zI (d i)))), (nw, .inl (dA 0, 12, .inl (fun i => zI (g i))))]) rfl ?_
        refine hv_if_eq C dX9_clip_60 (tgt := 67) (by decide) zB_e (fun hc60 => ?_) (fun hc60 => ?_)
        · refine hv_iconst C dX9_clip_67 (v := zI (3)) rfl ?_
          refine hv_callV (As := [.int (zI (3))]) (rest := []) (wc := [(m9, .inr (7, [.int (zI (rf)), .ref xt, .int (zI (zs)), .ref nw, .ref tr, .ref di, .int (zI ((sz : Int))), .ref ke, .ref ik, .ref wt, .int (zI (ld)), .int (zI (sp)), .int (zI (ou))]))]) (wr := [(di, .inl (dA 0, 168, .inl (fun i => zI (d i)))), (nw, .inl (dA 0, 12, .inl (fun i => zI (g i))))]) C (k_X9_refused l D dA m9 xt nw tr di ke ik wt (rf) (zs) ((sz : Int)) (ld) (sp) (ou) 3 (by omega)) (cwV 1 C.1.2.2.2.2 (hw_V tw_m_RX9_122 tw_i_X9_refused tw_s_X9_refused tw_n_RX9 tw_k_X9_refused) rfl rfl rfl (by decide +kernel) ⟨Nat.le_of_ble_eq_true rfl, Nat.le_of_ble_eq_true rfl⟩) (hv_pm [0] rfl) rfl 0 7 rfl rfl rfl (Nat.le_of_ble_eq_true rfl) dX9_clip_68 ⟨Nat.le_of_ble_eq_true rfl, Nat.le_of_ble_eq_true rfl⟩ (fun _ _ => ?_)
          have e9 : xc_clip g a b k = some hx_ISE := by unfold xc_clip; rw [xc_or_n (mz_req0 (by omega) (by omega)), if_pos (Decidable.not_not.mp (fun q => hc60 ((mz_can_iff hg (by omega) (by omega)).mpr q)))]
          have e8 : mz_k3 hx_IOE hx_IAE (xc_clip g a b k) = 3 := by rw [e9]; exact (mz_k3c hx_23 hx_21)
          refine hv_eqst (st' := [.int (zI (zB (decide ((0 : Int) < 3))))]) rfl ?_
          refine hv_weq (ws' := [(m9, .inr (7, [.int (zI (3)), .ref xt, .int (zI (zs)), .ref nw, .ref tr, .ref di, .int (zI ((sz : Int))), .ref ke, .ref ik, .ref wt, .int (zI (ld)), .int (zI (sp)), .int (zI (ou))])), (di, .inl (dA 0, 168, .inl (fun i => zI (d i)))), (nw, .inl (dA 0, 12, .inl (fun i => zI (g i))))]) (rfl) ?_
          refine hv_if_eq C dX9_clip_71 (tgt := 76) (by decide) zB_0 (fun hc71 => ?_) (fun hc71 => ?_)
          · exact absurd hc71 (by omega)
          · refine hv_iconst C dX9_clip_74 (v := zI (0)) rfl ?_
            exact hv_iret C M dX9_clip_75 rfl rfl d (fun q => absurd (e9.symm.trans q) (by simp)) (by rw [e9]; rfl) [] (List.Perm.of_eq (by rw [e8, e9]; rfl)) (Nat.le_refl _) (Nat.le_refl _)
        · refine hv_iconst C dX9_clip_63 (v := zI (0)) rfl ?_
          refine hv_goto C dX9_clip_64 (tgt := 68) (by decide) ?_
          refine hv_callV (As := [.int (zI (0))]) (rest := []) (wc := [(m9, .inr (7, [.int (zI (rf)), .ref xt, .int (zI (zs)), .ref nw, .ref tr, .ref di, .int (zI ((sz : Int))), .ref ke, .ref ik, .ref wt, .int (zI (ld)), .int (zI (sp)), .int (zI (ou))]))]) (wr := [(di, .inl (dA 0, 168, .inl (fun i => zI (d i)))), (nw, .inl (dA 0, 12, .inl (fun i => zI (g i))))]) C (k_X9_refused l D dA m9 xt nw tr di ke ik wt (rf) (zs) ((sz : Int)) (ld) (sp) (ou) 0 (by omega)) (cwV 1 C.1.2.2.2.2 (hw_V tw_m_RX9_122 tw_i_X9_refused tw_s_X9_refused tw_n_RX9 tw_k_X9_refused) rfl rfl rfl (by decide +kernel) ⟨Nat.le_of_ble_eq_true rfl, Nat.le_of_ble_eq_true rfl⟩) (hv_pm [0] rfl) rfl 0 7 rfl rfl rfl (Nat.le_of_ble_eq_true rfl) dX9_clip_68 ⟨Nat.le_of_ble_eq_true rfl, Nat.le_of_ble_eq_true rfl⟩ (fun _ _ => ?_)
          have e9 : xc_clip g a b k = none := by unfold xc_clip; rw [xc_or_n (mz_req0 (by omega) (by omega)), if_neg ((mz_can_iff hg (by omega) (by omega)).mp (Decidable.not_not.mp hc60))]
          have e8 : mz_k3 hx_IOE hx_IAE (xc_clip g a b k) = 0 := by rw [e9]; exact mz_k3n
          refine hv_eqst (st' := [.int (zI (zB (decide ((0 : Int) < 0))))]) rfl ?_
          refine hv_weq (ws' := [(m9, .inr (7, [.int (zI (0)), .ref xt, .int (zI (zs)), .ref nw, .ref tr, .ref di, .int (zI ((sz : Int))), .ref ke, .ref ik, .ref wt, .int (zI (ld)), .int (zI (sp)), .int (zI (ou))])), (di, .inl (dA 0, 168, .inl (fun i => zI (d i)))), (nw, .inl (dA 0, 12, .inl (fun i => zI (g i))))]) (rfl) ?_
          refine hv_if_eq C dX9_clip_71 (tgt := 76) (by decide) zB_0 (fun hc71 => ?_) (fun hc71 => ?_)
          · refine hv_aload_n C dX9_clip_76 0 rfl ?_
            refine hv_callV (As := []) (rest := []) (wc := [(m9, .inr (7, [.int (zI (0)), .ref xt, .int (zI (zs)), .ref nw, .ref tr, .ref di, .int (zI ((sz : Int))), .ref ke, .ref ik, .ref wt, .int (zI (ld)), .int (zI (sp)), .int (zI (ou))])), (di, .inl (dA 0, 168, .inl (fun i => zI (d i)))), (nw, .inl (dA 0, 12, .inl (fun i => zI (g i))))]) (wr := []) C (k_X9_remember l D dA m9 xt nw tr di ke ik wt (0) zs ld sp ou g nx sz j ct d hsz hnx ej hD) (cwV 0 C.1.2.2.2.2 (hw_V tw_m_RX9_175 tw_i_X9_remember tw_s_X9_remember tw_n_RX9 tw_k_X9_remember) rfl rfl rfl (by decide +kernel) ⟨Nat.le_of_ble_eq_true rfl, Nat.le_of_ble_eq_true rfl⟩) (hv_pm [0, 0, 0] rfl) rfl 0 7 rfl rfl rfl (Nat.le_of_ble_eq_true rfl) dX9_clip_77 ⟨Nat.le_of_ble_eq_true rfl, Nat.le_of_ble_eq_true rfl⟩ (fun u7 hu7 => ?_)
            refine hv_eqst (st' := []) rfl ?_
            refine hv_weq (ws' := [(m9, .inr (7, [.int (zI (0)), .ref xt, .int (zI (zs)), .ref nw, .ref tr, .ref di, .int (zI (((min (sz + 1) 14 : Nat) : Int))), .ref ke, .ref ik, .ref wt, .int (zI (ld)), .int (zI (sp)), .int (zI (ou))])), (di, .inl (dA 0, 168, .inl (fun i => zI (u7 i)))), (nw, .inl (dA 0, 12, .inl (fun i => zI (g i))))]) (rfl) ?_
            refine hv_aload_n C dX9_clip_80 0 rfl ?_
            refine hv_get C dX9_clip_81 (fun w h => hw_c (tw_u_9 w h)) 0 (ci := 7) rfl rfl 3 (by decide) (hw_c tw_f_RX9_13) rfl ?_
            refine hv_iload_n C dX9_clip_84 1 rfl ?_
            refine hv_iload_n C dX9_clip_85 2 rfl ?_
            refine hv_iload_n C dX9_clip_86 3 rfl ?_
            refine hv_callS (As := [.ref nw, .int (zI (a)), .int (zI (b)), .int (zI (k))]) (rest := []) (wc := [(nw, .inl (dA 0, 12, .inl (fun i => zI (g i))))]) (wr := [(m9, .inr (7, [.int (zI (0)), .ref xt, .int (zI (zs)), .ref nw, .ref tr, .ref di, .int (zI (((min (sz + 1) 14 : Nat) : Int))), .ref ke, .ref ik, .ref wt, .int (zI (ld)), .int (zI (sp)), .int (zI (ou))])), (di, .inl (dA 0, 168, .inl (fun i => zI (u7 i))))]) C (k_X9_clipOn l D dA nw g hg a.toNat b.toNat k.toNat (by omega) (by omega) (by omega) (by omega) (by omega) (by omega)) (va_cwS 4 C.1.2.2.2.2 (hw_S tw_m_RX9_108 tw_t_X9_clipOn tw_n_RX9 tw_k_X9_clipOn) rfl rfl rfl (by decide +kernel) ⟨Nat.le_of_ble_eq_true rfl, Nat.le_of_ble_eq_true rfl⟩) (hv_pm [2] rfl) rfl rfl (Nat.le_of_ble_eq_true rfl) dX9_clip_87 ⟨Nat.le_of_ble_eq_true rfl, Nat.le_of_ble_eq_true rfl⟩ (fun _ _ => ?_)
            refine hv_eqst (st' := [.int (zI (sp_fi g (gH g) (sp_bh (gS g) (gW g) (gH g) (100 * a.toNat + 10 * b.toNat + k.toNat))))]) rfl ?_
            refine hv_weq (ws' := [(nw, .inl (dA 0, 12, .inl (fun i => zI ((ox_clip g (100 * a.toNat + 10 * b.toNat + k.toNat)) i)))), (m9, .inr (7, [.int (zI (0)), .ref xt, .int (zI (zs)), .ref nw, .ref tr, .ref di, .int (zI (((min (sz + 1) 14 : Nat) : Int))), .ref ke, .ref ik, .ref wt, .int (zI (ld)), .int (zI (sp)), .int (zI (ou))])), (di, .inl (dA 0, 168, .inl (fun i => zI (u7 i))))]) (rfl) ?_
            refine hv_srt [1, 1, 0] (ws' := [(m9, .inr (7, [.int (zI (0)), .ref xt, .int (zI (zs)), .ref nw, .ref tr, .ref di, .int (zI (((min (sz + 1) 14 : Nat) : Int))), .ref ke, .ref ik, .ref wt, .int (zI (ld)), .int (zI (sp)), .int (zI (ou))])), (di, .inl (dA 0, 168, .inl (fun i => zI (u7 i)))), (nw, .inl (dA 0, 12, .inl (fun i => zI ((ox_clip g (100 * a.toNat + 10 * b.toNat + k.toNat)) i))))]) rfl ?_
            exact hv_iret C M dX9_clip_90 rfl rfl u7 (fun _ => hu7) (by rw [e9, show 100 * a.toNat + 10 * b.toNat + k.toNat = (100 * a + 10 * b + k).toNat by omega]; rfl) [] (List.Perm.of_eq (by rw [e8, e9, show 100 * a.toNat + 10 * b.toNat + k.toNat = (100 * a + 10 * b + k).toNat by omega]; rfl)) (Nat.le_refl _) (Nat.le_refl _)
          · exact absurd hc71 (by omega)
      · refine hv_iconst C dX9_clip_40 (v := zI (2)) rfl ?_
        refine hv_goto C dX9_clip_41 (tgt := 68) (by decide) ?_
        refine hv_callV (As := [.int (zI (2))]) (rest := []) (wc := [(m9, .inr (7, [.int (zI (rf)), .ref xt, .int (zI (zs)), .ref nw, .ref tr, .ref di, .int (zI ((sz : Int))), .ref ke, .ref ik, .ref wt, .int (zI (ld)), .int (zI (sp)), .int (zI (ou))]))]) (wr := [(di, .inl (dA 0, 168, .inl (fun i => zI (d i)))), (nw, .inl (dA 0, 12, .inl (fun i => zI (g i))))]) C (k_X9_refused l D dA m9 xt nw tr di ke ik wt (rf) (zs) ((sz : Int)) (ld) (sp) (ou) 2 (by omega)) (cwV 1 C.1.2.2.2.2 (hw_V tw_m_RX9_122 tw_i_X9_refused tw_s_X9_refused tw_n_RX9 tw_k_X9_refused) rfl rfl rfl (by decide +kernel) ⟨Nat.le_of_ble_eq_true rfl, Nat.le_of_ble_eq_true rfl⟩) (hv_pm [0] rfl) rfl 0 7 rfl rfl rfl (Nat.le_of_ble_eq_true rfl) dX9_clip_68 ⟨Nat.le_of_ble_eq_true rfl, Nat.le_of_ble_eq_true rfl⟩ (fun _ _ => ?_)
        have e9 : xc_clip g a b k = some hx_IAE := by unfold xc_clip; exact xc_or_s (mz_req2 (by omega) (by omega))
        have e8 : mz_k3 hx_IOE hx_IAE (xc_clip g a b k) = 2 := by rw [e9]; exact (mz_k3b hx_13)
        refine hv_eqst (st' := [.int (zI (zB (decide ((0 : Int) < 2))))]) rfl ?_
        refine hv_weq (ws' := [(m9, .inr (7, [.int (zI (2)), .ref xt, .int (zI (zs)), .ref nw, .ref tr, .ref di, .int (zI ((sz : Int))), .ref ke, .ref ik, .ref wt, .int (zI (ld)), .int (zI (sp)), .int (zI (ou))])), (di, .inl (dA 0, 168, .inl (fun i => zI (d i)))), (nw, .inl (dA 0, 12, .inl (fun i => zI (g i))))]) (rfl) ?_
        refine hv_if_eq C dX9_clip_71 (tgt := 76) (by decide) zB_0 (fun hc71 => ?_) (fun hc71 => ?_)
        · exact absurd hc71 (by omega)
        · refine hv_iconst C dX9_clip_74 (v := zI (0)) rfl ?_
          exact hv_iret C M dX9_clip_75 rfl rfl d (fun q => absurd (e9.symm.trans q) (by simp)) (by rw [e9]; rfl) [] (List.Perm.of_eq (by rw [e8, e9]; rfl)) (Nat.le_refl _) (Nat.le_refl _)
    · refine hv_iconst C dX9_clip_23 (v := zI (1)) rfl ?_
      refine hv_goto C dX9_clip_24 (tgt := 68) (by decide) ?_
      refine hv_callV (As := [.int (zI (1))]) (rest := []) (wc := [(m9, .inr (7, [.int (zI (rf)), .ref xt, .int (zI (zs)), .ref nw, .ref tr, .ref di, .int (zI ((sz : Int))), .ref ke, .ref ik, .ref wt, .int (zI (ld)), .int (zI (sp)), .int (zI (ou))]))]) (wr := [(di, .inl (dA 0, 168, .inl (fun i => zI (d i)))), (nw, .inl (dA 0, 12, .inl (fun i => zI (g i))))]) C (k_X9_refused l D dA m9 xt nw tr di ke ik wt (rf) (zs) ((sz : Int)) (ld) (sp) (ou) 1 (by omega)) (cwV 1 C.1.2.2.2.2 (hw_V tw_m_RX9_122 tw_i_X9_refused tw_s_X9_refused tw_n_RX9 tw_k_X9_refused) rfl rfl rfl (by decide +kernel) ⟨Nat.le_of_ble_eq_true rfl, Nat.le_of_ble_eq_true rfl⟩) (hv_pm [0] rfl) rfl 0 7 rfl rfl rfl (Nat.le_of_ble_eq_true rfl) dX9_clip_68 ⟨Nat.le_of_ble_eq_true rfl, Nat.le_of_ble_eq_true rfl⟩ (fun _ _ => ?_)
      have e9 : xc_clip g a b k = some hx_IOE := by unfold xc_clip; exact xc_or_s (mz_req1 (by omega))
      have e8 : mz_k3 hx_IOE hx_IAE (xc_clip g a b k) = 1 := by rw [e9]; exact mz_k3a
      refine hv_eqst (st' := [.int (zI (zB (decide ((0 : Int) < 1))))]) rfl ?_
      refine hv_weq (ws' := [(m9, .inr (7, [.int (zI (1)), .ref xt, .int (zI (zs)), .ref nw, .ref tr, .ref di, .int (zI ((sz : Int))), .ref ke, .ref ik, .ref wt, .int (zI (ld)), .int (zI (sp)), .int (zI (ou))])), (di, .inl (dA 0, 168, .inl (fun i => zI (d i)))), (nw, .inl (dA 0, 12, .inl (fun i => zI (g i))))]) (rfl) ?_
      refine hv_if_eq C dX9_clip_71 (tgt := 76) (by decide) zB_0 (fun hc71 => ?_) (fun hc71 => ?_)
      · exact absurd hc71 (by omega)
      · refine hv_iconst C dX9_clip_74 (v := zI (0)) rfl ?_
        exact hv_iret C M dX9_clip_75 rfl rfl d (fun q => absurd (e9.symm.trans q) (by simp)) (by rw [e9]; rfl) [] (List.Perm.of_eq (by rw [e8, e9]; rfl)) (Nat.le_refl _) (Nat.le_refl _)

theorem mz_cw_iff {g : Nat → Int} (hg : WF g) {z : Int} (h : 0 ≤ z ∧ z < g 0) : ox_cw g z = true ↔ ¬ sp_dg (gH g) z.toNat = 3 := by
  have e0 := hg.e0
  constructor
  · exact fun q => (ox_cw_t q).2
  · exact fun q => sp_cw_t (by omega) q
theorem mz_wat0 {g : Nat → Int} {z : Int} (h : 0 ≤ z ∧ z < g 0) : xc_wat g z = if sp_dg (gH g) z.toNat = 3 then some hx_ISE else none := by
  unfold xc_wat xc_stem
  rw [if_pos h]; rfl

set_option maxHeartbeats 4000000 in
set_option maxRecDepth 100000 in
theorem k_X9_water (l : Launch) (D : va_G) (dA : Nat → ClassId) (m9 xt nw tr di ke ik wt : Nat) (rf zs ld sp ou : Int) (g : Nat → Int) (hg : WF g) (nx sz j : Nat) (ct : Nat → Nat → Int) (d : Nat → Int) (hsz : sz ≤ 14) (hnx : nx ≤ 14) (ej : j = nx % 14) (hD : mz_D nx sz ct d) (z : Int) (hz : -2147483648 ≤ z ∧ z < 2147483648) : hv_Ct l yX9_water (hw_W yX9_water cX9_water 2 (some .int)) 4 D dA [.ref m9, .int (zI (z))] ([(m9, .inr (7, [.int (zI (rf)), .ref xt, .int (zI (zs)), .ref nw, .ref tr, .ref di, .int (zI ((sz : Int))), .ref ke, .ref ik, .ref wt, .int (zI (ld)), .int (zI (sp)), .int (zI (ou))])), (di, .inl (dA 0, 168, .inl (fun i => zI (d i)))), (nw, .inl (dA 0, 12, .inl (fun i => zI (g i))))]) 0 0 (S := Nat → Int) (fun _ => mz_w (xc_wat g z) (some (.int (zI ((sp_dg (gH g + 4 ^ z.toNat) z.toNat : Int))))) (some (.int (zI 0)))) (fun u => xc_wat g z = none → mz_D (j + 1) (min (sz + 1) 14) (mo_ct ct j g) u) (fun u => mz_w (xc_wat g z) ([(m9, .inr (7, [.int (zI (mz_k2 hx_IOE (xc_wat g z))), .ref xt, .int (zI (zs)), .ref nw, .ref tr, .ref di, .int (zI (((min (sz + 1) 14 : Nat) : Int))), .ref ke, .ref ik, .ref wt, .int (zI (ld)), .int (zI (sp)), .int (zI (ou))])), (di, .inl (dA 0, 168, .inl (fun i => zI (u i)))), (nw, .inl (dA 0, 12, .inl (fun i => zI ((ox_wat g z) i))))]) ([(m9, .inr (7, [.int (zI (mz_k2 hx_IOE (xc_wat g z))), .ref xt, .int (zI (zs)), .ref nw, .ref tr, .ref di, .int (zI ((sz : Int))), .ref ke, .ref ik, .ref wt, .int (zI (ld)), .int (zI (sp)), .int (zI (ou))])), (di, .inl (dA 0, 168, .inl (fun i => zI (d i)))), (nw, .inl (dA 0, 12, .inl (fun i => zI (g i))))])) := by
  have hg0 := hg.1
  have hg1 := hg.e1
  have hgx := hg.x
  have hg5 := hg.2.2.2.2.2
  have hgR := hg.R
  have hgS := hg.S
  have hge0 := hg.e0
  have hge5 := hg.e5
  refine hv_of (cc := cX9_water) (maxL := 2) (ret := (some .int)) (own := RX9) rfl (by decide) rfl (Nat.le_of_ble_eq_true rfl) ?_
  intro p e s m args below meth c C M
  refine hv_lveq (lv' := [(0, .ref m9), (1, .int (zI (z)))]) rfl ?_
  refine hv_aload_n C dX9_water_0 0 rfl ?_
  refine hv_aload_n C dX9_water_1 0 rfl ?_
  refine hv_get C dX9_water_2 (fun w h => hw_c (tw_u_9 w h)) 0 (ci := 7) rfl rfl 3 (by decide) (hw_c tw_f_RX9_13) rfl ?_
  refine hv_iload_n C dX9_water_5 1 rfl ?_
  refine hv_callS (As := [.ref nw, .int (zI (z))]) (rest := [.ref m9]) (wc := [(nw, .inl (dA 0, 12, .inl (fun i => zI (g i))))]) (wr := [(m9, .inr (7, [.int (zI (rf)), .ref xt, .int (zI (zs)), .ref nw, .ref tr, .ref di, .int (zI ((sz : Int))), .ref ke, .ref ik, .ref wt, .int (zI (ld)), .int (zI (sp)), .int (zI (ou))])), (di, .inl (dA 0, 168, .inl (fun i => zI (d i))))]) C (k_X9_isStem l D dA nw g (by omega) (z) (by omega)) (va_cwS 2 C.1.2.2.2.2 (hw_S tw_m_RX9_53 tw_t_X9_isStem tw_n_RX9 tw_k_X9_isStem) rfl rfl rfl (by decide +kernel) ⟨Nat.le_of_ble_eq_true rfl, Nat.le_of_ble_eq_true rfl⟩) (hv_pm [2] rfl) rfl rfl (Nat.le_of_ble_eq_true rfl) dX9_water_6 ⟨Nat.le_of_ble_eq_true rfl, Nat.le_of_ble_eq_true rfl⟩ (fun _ _ => ?_)
  refine hv_eqst (st' := [.int (zI (zB (decide (0 ≤ z ∧ z < g 0)))), .ref m9]) rfl ?_
  refine hv_weq (ws' := [(nw, .inl (dA 0, 12, .inl (fun i => zI (g i)))), (m9, .inr (7, [.int (zI (rf)), .ref xt, .int (zI (zs)), .ref nw, .ref tr, .ref di, .int (zI ((sz : Int))), .ref ke, .ref ik, .ref wt, .int (zI (ld)), .int (zI (sp)), .int (zI (ou))])), (di, .inl (dA 0, 168, .inl (fun i => zI (d i))))]) (rfl) ?_
  refine hv_srt [1, 1, 0] (ws' := [(m9, .inr (7, [.int (zI (rf)), .ref xt, .int (zI (zs)), .ref nw, .ref tr, .ref di, .int (zI ((sz : Int))), .ref ke, .ref ik, .ref wt, .int (zI (ld)), .int (zI (sp)), .int (zI (ou))])), (di, .inl (dA 0, 168, .inl (fun i => zI (d i)))), (nw, .inl (dA 0, 12, .inl (fun i => zI (g i))))]) rfl ?_
  refine hv_if_ne C dX9_water_9 (tgt := 16) (by decide) zB_n0 (fun hc9 => ?_) (fun hc9 => ?_)
  · refine hv_aload_n C dX9_water_16 0 rfl ?_
    refine hv_get C dX9_water_17 (fun w h => hw_c (tw_u_9 w h)) 0 (ci := 7) rfl rfl 3 (by decide) (hw_c tw_f_RX9_13) rfl ?_
    refine hv_iload_n C dX9_water_20 1 rfl ?_
    refine hv_callS (As := [.ref nw, .int (zI (z))]) (rest := [.ref m9]) (wc := [(nw, .inl (dA 0, 12, .inl (fun i => zI (g i))))]) (wr := [(m9, .inr (7, [.int (zI (rf)), .ref xt, .int (zI (zs)), .ref nw, .ref tr, .ref di, .int (zI ((sz : Int))), .ref ke, .ref ik, .ref wt, .int (zI (ld)), .int (zI (sp)), .int (zI (ou))])), (di, .inl (dA 0, 168, .inl (fun i => zI (d i))))]) C (k_X9_canWater l D dA nw g hg z (by omega)) (va_cwS 2 C.1.2.2.2.2 (hw_S tw_m_RX9_140 tw_t_X9_canWater tw_n_RX9 tw_k_X9_canWater) rfl rfl rfl (by decide +kernel) ⟨Nat.le_of_ble_eq_true rfl, Nat.le_of_ble_eq_true rfl⟩) (hv_pm [2] rfl) rfl rfl (Nat.le_of_ble_eq_true rfl) dX9_water_21 ⟨Nat.le_of_ble_eq_true rfl, Nat.le_of_ble_eq_true rfl⟩ (fun _ _ => ?_)
    refine hv_eqst (st' := [.int (zI (zB (ox_cw g z))), .ref m9]) rfl ?_
    refine hv_weq (ws' := [(nw, .inl (dA 0, 12, .inl (fun i => zI (g i)))), (m9, .inr (7, [.int (zI (rf)), .ref xt, .int (zI (zs)), .ref nw, .ref tr, .ref di, .int (zI ((sz : Int))), .ref ke, .ref ik, .ref wt, .int (zI (ld)), .int (zI (sp)), .int (zI (ou))])), (di, .inl (dA 0, 168, .inl (fun i => zI (d i))))]) (rfl) ?_
    refine hv_srt [1, 1, 0] (ws' := [(m9, .inr (7, [.int (zI (rf)), .ref xt, .int (zI (zs)), .ref nw, .ref tr, .ref di, .int (zI ((sz : Int))), .ref ke, .ref ik, .ref wt, .int (zI (ld)), .int (zI (sp)), .int (zI (ou))])), (di, .inl (dA 0, 168, .inl (fun i => zI (d i)))), (nw, .inl (dA 0, 12, .inl (fun i => zI (g i))))]) rfl ?_
    refine hv_if_eq C dX9_water_24 (tgt := 31) (by decide) zB_e (fun hc24 => ?_) (fun hc24 => ?_)
    · refine hv_iconst C dX9_water_31 (v := zI (2)) rfl ?_
      refine hv_callV (As := [.int (zI (2))]) (rest := []) (wc := [(m9, .inr (7, [.int (zI (rf)), .ref xt, .int (zI (zs)), .ref nw, .ref tr, .ref di, .int (zI ((sz : Int))), .ref ke, .ref ik, .ref wt, .int (zI (ld)), .int (zI (sp)), .int (zI (ou))]))]) (wr := [(di, .inl (dA 0, 168, .inl (fun i => zI (d i)))), (nw, .inl (dA 0, 12, .inl (fun i => zI (g i))))]) C (k_X9_refused l D dA m9 xt nw tr di ke ik wt (rf) (zs) ((sz : Int)) (ld) (sp) (ou) 2 (by omega)) (cwV 1 C.1.2.2.2.2 (hw_V tw_m_RX9_122 tw_i_X9_refused tw_s_X9_refused tw_n_RX9 tw_k_X9_refused) rfl rfl rfl (by decide +kernel) ⟨Nat.le_of_ble_eq_true rfl, Nat.le_of_ble_eq_true rfl⟩) (hv_pm [0] rfl) rfl 0 7 rfl rfl rfl (Nat.le_of_ble_eq_true rfl) dX9_water_32 ⟨Nat.le_of_ble_eq_true rfl, Nat.le_of_ble_eq_true rfl⟩ (fun _ _ => ?_)
      have e9 : xc_wat g z = some hx_ISE := by rw [mz_wat0 (by omega), if_pos (Decidable.not_not.mp (fun q => hc24 ((mz_cw_iff hg (by omega)).mpr q)))]
      have e8 : mz_k2 hx_IOE (xc_wat g z) = 2 := by rw [e9]; exact (mz_k2b hx_23)
      refine hv_eqst (st' := [.int (zI (zB (decide ((0 : Int) < 2))))]) rfl ?_
      refine hv_weq (ws' := [(m9, .inr (7, [.int (zI (2)), .ref xt, .int (zI (zs)), .ref nw, .ref tr, .ref di, .int (zI ((sz : Int))), .ref ke, .ref ik, .ref wt, .int (zI (ld)), .int (zI (sp)), .int (zI (ou))])), (di, .inl (dA 0, 168, .inl (fun i => zI (d i)))), (nw, .inl (dA 0, 12, .inl (fun i => zI (g i))))]) (rfl) ?_
      refine hv_if_eq C dX9_water_35 (tgt := 40) (by decide) zB_0 (fun hc35 => ?_) (fun hc35 => ?_)
      · exact absurd hc35 (by omega)
      · refine hv_iconst C dX9_water_38 (v := zI (0)) rfl ?_
        exact hv_iret C M dX9_water_39 rfl rfl d (fun q => absurd (e9.symm.trans q) (by simp)) (by rw [e9]; rfl) [] (List.Perm.of_eq (by rw [e8, e9]; rfl)) (Nat.le_refl _) (Nat.le_refl _)
    · refine hv_iconst C dX9_water_27 (v := zI (0)) rfl ?_
      refine hv_goto C dX9_water_28 (tgt := 32) (by decide) ?_
      refine hv_callV (As := [.int (zI (0))]) (rest := []) (wc := [(m9, .inr (7, [.int (zI (rf)), .ref xt, .int (zI (zs)), .ref nw, .ref tr, .ref di, .int (zI ((sz : Int))), .ref ke, .ref ik, .ref wt, .int (zI (ld)), .int (zI (sp)), .int (zI (ou))]))]) (wr := [(di, .inl (dA 0, 168, .inl (fun i => zI (d i)))), (nw, .inl (dA 0, 12, .inl (fun i => zI (g i))))]) C (k_X9_refused l D dA m9 xt nw tr di ke ik wt (rf) (zs) ((sz : Int)) (ld) (sp) (ou) 0 (by omega)) (cwV 1 C.1.2.2.2.2 (hw_V tw_m_RX9_122 tw_i_X9_refused tw_s_X9_refused tw_n_RX9 tw_k_X9_refused) rfl rfl rfl (by decide +kernel) ⟨Nat.le_of_ble_eq_true rfl, Nat.le_of_ble_eq_true rfl⟩) (hv_pm [0] rfl) rfl 0 7 rfl rfl rfl (Nat.le_of_ble_eq_true rfl) dX9_water_32 ⟨Nat.le_of_ble_eq_true rfl, Nat.le_of_ble_eq_true rfl⟩ (fun _ _ => ?_)
      have e9 : xc_wat g z = none := by rw [mz_wat0 (by omega), if_neg ((mz_cw_iff hg (by omega)).mp (Decidable.not_not.mp hc24))]
      have e8 : mz_k2 hx_IOE (xc_wat g z) = 0 := by rw [e9]; exact mz_k2n
      refine hv_eqst (st' := [.int (zI (zB (decide ((0 : Int) < 0))))]) rfl ?_
      refine hv_weq (ws' := [(m9, .inr (7, [.int (zI (0)), .ref xt, .int (zI (zs)), .ref nw, .ref tr, .ref di, .int (zI ((sz : Int))), .ref ke, .ref ik, .ref wt, .int (zI (ld)), .int (zI (sp)), .int (zI (ou))])), (di, .inl (dA 0, 168, .inl (fun i => zI (d i)))), (nw, .inl (dA 0, 12, .inl (fun i => zI (g i))))]) (rfl) ?_
      refine hv_if_eq C dX9_water_35 (tgt := 40) (by decide) zB_0 (fun hc35 => ?_) (fun hc35 => ?_)
      · refine hv_aload_n C dX9_water_40 0 rfl ?_
        refine hv_callV (As := []) (rest := []) (wc := [(m9, .inr (7, [.int (zI (0)), .ref xt, .int (zI (zs)), .ref nw, .ref tr, .ref di, .int (zI ((sz : Int))), .ref ke, .ref ik, .ref wt, .int (zI (ld)), .int (zI (sp)), .int (zI (ou))])), (di, .inl (dA 0, 168, .inl (fun i => zI (d i)))), (nw, .inl (dA 0, 12, .inl (fun i => zI (g i))))]) (wr := []) C (k_X9_remember l D dA m9 xt nw tr di ke ik wt (0) zs ld sp ou g nx sz j ct d hsz hnx ej hD) (cwV 0 C.1.2.2.2.2 (hw_V tw_m_RX9_175 tw_i_X9_remember tw_s_X9_remember tw_n_RX9 tw_k_X9_remember) rfl rfl rfl (by decide +kernel) ⟨Nat.le_of_ble_eq_true rfl, Nat.le_of_ble_eq_true rfl⟩) (hv_pm [0, 0, 0] rfl) rfl 0 7 rfl rfl rfl (Nat.le_of_ble_eq_true rfl) dX9_water_41 ⟨Nat.le_of_ble_eq_true rfl, Nat.le_of_ble_eq_true rfl⟩ (fun u7 hu7 => ?_)
        refine hv_eqst (st' := []) rfl ?_
        refine hv_weq (ws' := [(m9, .inr (7, [.int (zI (0)), .ref xt, .int (zI (zs)), .ref nw, .ref tr, .ref di, .int (zI (((min (sz + 1) 14 : Nat) : Int))), .ref ke, .ref ik, .ref wt, .int (zI (ld)), .int (zI (sp)), .int (zI (ou))])), (di, .inl (dA 0, 168, .inl (fun i => zI (u7 i)))), (nw, .inl (dA 0, 12, .inl (fun i => zI (g i))))]) (rfl) ?_
        refine hv_aload_n C dX9_water_44 0 rfl ?_
        refine hv_get C dX9_water_45 (fun w h => hw_c (tw_u_9 w h)) 0 (ci := 7) rfl rfl 3 (by decide) (hw_c tw_f_RX9_13) rfl ?_
        refine hv_iload_n C dX9_water_48 1 rfl ?_
        refine hv_callS (As := [.ref nw, .int (zI (z))]) (rest := []) (wc := [(nw, .inl (dA 0, 12, .inl (fun i => zI (g i))))]) (wr := [(m9, .inr (7, [.int (zI (0)), .ref xt, .int (zI (zs)), .ref nw, .ref tr, .ref di, .int (zI (((min (sz + 1) 14 : Nat) : Int))), .ref ke, .ref ik, .ref wt, .int (zI (ld)), .int (zI (sp)), .int (zI (ou))])), (di, .inl (dA 0, 168, .inl (fun i => zI (u7 i))))]) C (k_X9_waterOn l D dA nw g hg z.toNat (by omega) (by omega) ((mz_cw_iff hg (by omega)).mp (Decidable.not_not.mp hc24))) (va_cwS 2 C.1.2.2.2.2 (hw_S tw_m_RX9_143 tw_t_X9_waterOn tw_n_RX9 tw_k_X9_waterOn) rfl rfl rfl (by decide +kernel) ⟨Nat.le_of_ble_eq_true rfl, Nat.le_of_ble_eq_true rfl⟩) (hv_pm [2] rfl) rfl rfl (Nat.le_of_ble_eq_true rfl) dX9_water_49 ⟨Nat.le_of_ble_eq_true rfl, Nat.le_of_ble_eq_true rfl⟩ (fun _ _ => ?_)
        refine hv_eqst (st' := [.int (zI ((sp_dg (gH g + 4 ^ z.toNat) z.toNat : Int)))]) rfl ?_
        refine hv_weq (ws' := [(nw, .inl (dA 0, 12, .inl (fun i => zI ((ox_wat g (z.toNat : Int)) i)))), (m9, .inr (7, [.int (zI (0)), .ref xt, .int (zI (zs)), .ref nw, .ref tr, .ref di, .int (zI (((min (sz + 1) 14 : Nat) : Int))), .ref ke, .ref ik, .ref wt, .int (zI (ld)), .int (zI (sp)), .int (zI (ou))])), (di, .inl (dA 0, 168, .inl (fun i => zI (u7 i))))]) (rfl) ?_
        refine hv_srt [1, 1, 0] (ws' := [(m9, .inr (7, [.int (zI (0)), .ref xt, .int (zI (zs)), .ref nw, .ref tr, .ref di, .int (zI (((min (sz + 1) 14 : Nat) : Int))), .ref ke, .ref ik, .ref wt, .int (zI (ld)), .int (zI (sp)), .int (zI (ou))])), (di, .inl (dA 0, 168, .inl (fun i => zI (u7 i)))), (nw, .inl (dA 0, 12, .inl (fun i => zI ((ox_wat g (z.toNat : Int)) i))))]) rfl ?_
        exact hv_iret C M dX9_water_52 rfl rfl u7 (fun _ => hu7) (by rw [e9]; rfl) [] (List.Perm.of_eq (by rw [e8, e9, show ((z.toNat : Nat) : Int) = z by omega]; rfl)) (Nat.le_refl _) (Nat.le_refl _)
      · exact absurd hc35 (by omega)
  · refine hv_iconst C dX9_water_12 (v := zI (1)) rfl ?_
    refine hv_goto C dX9_water_13 (tgt := 32) (by decide) ?_
    refine hv_callV (As := [.int (zI (1))]) (rest := []) (wc := [(m9, .inr (7, [.int (zI (rf)), .ref xt, .int (zI (zs)), .ref nw, .ref tr, .ref di, .int (zI ((sz : Int))), .ref ke, .ref ik, .ref wt, .int (zI (ld)), .int (zI (sp)), .int (zI (ou))]))]) (wr := [(di, .inl (dA 0, 168, .inl (fun i => zI (d i)))), (nw, .inl (dA 0, 12, .inl (fun i => zI (g i))))]) C (k_X9_refused l D dA m9 xt nw tr di ke ik wt (rf) (zs) ((sz : Int)) (ld) (sp) (ou) 1 (by omega)) (cwV 1 C.1.2.2.2.2 (hw_V tw_m_RX9_122 tw_i_X9_refused tw_s_X9_refused tw_n_RX9 tw_k_X9_refused) rfl rfl rfl (by decide +kernel) ⟨Nat.le_of_ble_eq_true rfl, Nat.le_of_ble_eq_true rfl⟩) (hv_pm [0] rfl) rfl 0 7 rfl rfl rfl (Nat.le_of_ble_eq_true rfl) dX9_water_32 ⟨Nat.le_of_ble_eq_true rfl, Nat.le_of_ble_eq_true rfl⟩ (fun _ _ => ?_)
    have e9 : xc_wat g z = some hx_IOE := by unfold xc_wat xc_stem; rw [if_neg (by omega)]; rfl
    have e8 : mz_k2 hx_IOE (xc_wat g z) = 1 := by rw [e9]; exact mz_k2a
    refine hv_eqst (st' := [.int (zI (zB (decide ((0 : Int) < 1))))]) rfl ?_
    refine hv_weq (ws' := [(m9, .inr (7, [.int (zI (1)), .ref xt, .int (zI (zs)), .ref nw, .ref tr, .ref di, .int (zI ((sz : Int))), .ref ke, .ref ik, .ref wt, .int (zI (ld)), .int (zI (sp)), .int (zI (ou))])), (di, .inl (dA 0, 168, .inl (fun i => zI (d i)))), (nw, .inl (dA 0, 12, .inl (fun i => zI (g i))))]) (rfl) ?_
    refine hv_if_eq C dX9_water_35 (tgt := 40) (by decide) zB_0 (fun hc35 => ?_) (fun hc35 => ?_)
    · exact absurd hc35 (by omega)
    · refine hv_iconst C dX9_water_38 (v := zI (0)) rfl ?_
      exact hv_iret C M dX9_water_39 rfl rfl d (fun q => absurd (e9.symm.trans q) (by simp)) (by rw [e9]; rfl) [] (List.Perm.of_eq (by rw [e8, e9]; rfl)) (Nat.le_refl _) (Nat.le_refl _)

set_option maxHeartbeats 4000000 in
set_option maxRecDepth 100000 in
theorem k_X9_wind (l : Launch) (D : va_G) (dA : Nat → ClassId) (m9 xt nw tr di ke ik wt : Nat) (rf zs ld sp ou : Int) (g : Nat → Int) (hg : WF g) (nx sz j : Nat) (ct : Nat → Nat → Int) (d : Nat → Int) (hsz : sz ≤ 14) (hnx : nx ≤ 14) (ej : j = nx % 14) (hD : mz_D nx sz ct d) (z : Int) (hz : -2147483648 ≤ z ∧ z < 2147483648) : hv_Ct l yX9_wind (hw_W yX9_wind cX9_wind 2 (some .int)) 2 D dA [.ref m9, .int (zI (z))] ([(m9, .inr (7, [.int (zI (rf)), .ref xt, .int (zI (zs)), .ref nw, .ref tr, .ref di, .int (zI ((sz : Int))), .ref ke, .ref ik, .ref wt, .int (zI (ld)), .int (zI (sp)), .int (zI (ou))])), (di, .inl (dA 0, 168, .inl (fun i => zI (d i)))), (nw, .inl (dA 0, 12, .inl (fun i => zI (g i))))]) 0 0 (S := Nat → Int) (fun _ => mz_w (xc_wind z) (some (.int (zI (g 2)))) (some (.int (zI 0)))) (fun u => xc_wind z = none → mz_D (j + 1) (min (sz + 1) 14) (mo_ct ct j g) u) (fun u => mz_w (xc_wind z) ([(m9, .inr (7, [.int (zI (mz_k1 (xc_wind z))), .ref xt, .int (zI (zs)), .ref nw, .ref tr, .ref di, .int (zI (((min (sz + 1) 14 : Nat) : Int))), .ref ke, .ref ik, .ref wt, .int (zI (ld)), .int (zI (sp)), .int (zI (ou))])), (di, .inl (dA 0, 168, .inl (fun i => zI (u i)))), (nw, .inl (dA 0, 12, .inl (fun i => zI ((sp_set g 2 z) i))))]) ([(m9, .inr (7, [.int (zI (mz_k1 (xc_wind z))), .ref xt, .int (zI (zs)), .ref nw, .ref tr, .ref di, .int (zI ((sz : Int))), .ref ke, .ref ik, .ref wt, .int (zI (ld)), .int (zI (sp)), .int (zI (ou))])), (di, .inl (dA 0, 168, .inl (fun i => zI (d i)))), (nw, .inl (dA 0, 12, .inl (fun i => zI (g i))))])) := by
  have hg0 := hg.1
  have hg1 := hg.e1
  have hgx := hg.x
  have hg5 := hg.2.2.2.2.2
  have hgR := hg.R
  have hgS := hg.S
  have hge0 := hg.e0
  have hge5 := hg.e5
  refine hv_of (cc := cX9_wind) (maxL := 2) (ret := (some .int)) (own := RX9) rfl (by decide) rfl (Nat.le_of_ble_eq_true rfl) ?_
  intro p e s m args below meth c C M
  refine hv_lveq (lv' := [(0, .ref m9), (1, .int (zI (z)))]) rfl ?_
  refine hv_aload_n C dX9_wind_0 0 rfl ?_
  refine hv_iload_n C dX9_wind_1 1 rfl ?_
  refine hv_i2l C dX9_wind_2 (v := (zL (z))) (by exact zL_i (by omega)) ?_
  refine hv_lconst C dX9_wind_3 (v := 0) rfl ?_
  refine hv_ldc2 C dX9_wind_4 (hw_c tw_o_RX9_171) ?_
  refine hv_eqst (st' := [.long (zL (2)), .long (zL (0)), .long (zL (z)), .ref m9]) (by rfl) ?_
  refine hv_callS (As := [.long (zL (z)), .long (zL (0)), .long (zL (2))]) (rest := [.ref m9]) (wc := []) (wr := [(m9, .inr (7, [.int (zI (rf)), .ref xt, .int (zI (zs)), .ref nw, .ref tr, .ref di, .int (zI ((sz : Int))), .ref ke, .ref ik, .ref wt, .int (zI (ld)), .int (zI (sp)), .int (zI (ou))])), (di, .inl (dA 0, 168, .inl (fun i => zI (d i)))), (nw, .inl (dA 0, 12, .inl (fun i => zI (g i))))]) C (k_X9_in l D dA (z) (by omega) (0) (by omega) (2) (by omega)) (va_cwS 3 C.1.2.2.2.2 (hw_S tw_m_RX9_43 tw_t_X9_in tw_n_RX9 tw_k_X9_in) rfl rfl rfl (by decide +kernel) ⟨Nat.le_of_ble_eq_true rfl, Nat.le_of_ble_eq_true rfl⟩) (hv_pm [] rfl) rfl rfl (Nat.le_of_ble_eq_true rfl) dX9_wind_7 ⟨Nat.le_of_ble_eq_true rfl, Nat.le_of_ble_eq_true rfl⟩ (fun _ _ => ?_)
  refine hv_eqst (st' := [.int (zI (zB (decide (0 ≤ z ∧ z ≤ 2)))), .ref m9]) rfl ?_
  refine hv_weq (ws' := [(m9, .inr (7, [.int (zI (rf)), .ref xt, .int (zI (zs)), .ref nw, .ref tr, .ref di, .int (zI ((sz : Int))), .ref ke, .ref ik, .ref wt, .int (zI (ld)), .int (zI (sp)), .int (zI (ou))])), (di, .inl (dA 0, 168, .inl (fun i => zI (d i)))), (nw, .inl (dA 0, 12, .inl (fun i => zI (g i))))]) (rfl) ?_
  refine hv_if_eq C dX9_wind_10 (tgt := 17) (by decide) zB_0 (fun hc10 => ?_) (fun hc10 => ?_)
  · refine hv_iconst C dX9_wind_17 (v := zI (1)) rfl ?_
    refine hv_callV (As := [.int (zI (1))]) (rest := []) (wc := [(m9, .inr (7, [.int (zI (rf)), .ref xt, .int (zI (zs)), .ref nw, .ref tr, .ref di, .int (zI ((sz : Int))), .ref ke, .ref ik, .ref wt, .int (zI (ld)), .int (zI (sp)), .int (zI (ou))]))]) (wr := [(di, .inl (dA 0, 168, .inl (fun i => zI (d i)))), (nw, .inl (dA 0, 12, .inl (fun i => zI (g i))))]) C (k_X9_refused l D dA m9 xt nw tr di ke ik wt (rf) (zs) ((sz : Int)) (ld) (sp) (ou) 1 (by omega)) (cwV 1 C.1.2.2.2.2 (hw_V tw_m_RX9_122 tw_i_X9_refused tw_s_X9_refused tw_n_RX9 tw_k_X9_refused) rfl rfl rfl (by decide +kernel) ⟨Nat.le_of_ble_eq_true rfl, Nat.le_of_ble_eq_true rfl⟩) (hv_pm [0] rfl) rfl 0 7 rfl rfl rfl (Nat.le_of_ble_eq_true rfl) dX9_wind_18 ⟨Nat.le_of_ble_eq_true rfl, Nat.le_of_ble_eq_true rfl⟩ (fun _ _ => ?_)
    have e9 : xc_wind z = some hx_IAE := by unfold xc_wind; (repeat' split) <;> first | rfl | (exfalso; omega)
    have e8 : mz_k1 (xc_wind z) = 1 := by rw [e9]; exact mz_k1s
    refine hv_eqst (st' := [.int (zI (zB (decide ((0 : Int) < 1))))]) rfl ?_
    refine hv_weq (ws' := [(m9, .inr (7, [.int (zI (1)), .ref xt, .int (zI (zs)), .ref nw, .ref tr, .ref di, .int (zI ((sz : Int))), .ref ke, .ref ik, .ref wt, .int (zI (ld)), .int (zI (sp)), .int (zI (ou))])), (di, .inl (dA 0, 168, .inl (fun i => zI (d i)))), (nw, .inl (dA 0, 12, .inl (fun i => zI (g i))))]) (rfl) ?_
    refine hv_if_eq C dX9_wind_21 (tgt := 26) (by decide) zB_0 (fun hc21 => ?_) (fun hc21 => ?_)
    · exact absurd hc21 (by omega)
    · refine hv_iconst C dX9_wind_24 (v := zI (0)) rfl ?_
      exact hv_iret C M dX9_wind_25 rfl rfl d (fun q => absurd (e9.symm.trans q) (by simp)) (by rw [e9]; rfl) [] (List.Perm.of_eq (by rw [e8, e9]; rfl)) (Nat.le_refl _) (Nat.le_refl _)
  · refine hv_iconst C dX9_wind_13 (v := zI (0)) rfl ?_
    refine hv_goto C dX9_wind_14 (tgt := 18) (by decide) ?_
    refine hv_callV (As := [.int (zI (0))]) (rest := []) (wc := [(m9, .inr (7, [.int (zI (rf)), .ref xt, .int (zI (zs)), .ref nw, .ref tr, .ref di, .int (zI ((sz : Int))), .ref ke, .ref ik, .ref wt, .int (zI (ld)), .int (zI (sp)), .int (zI (ou))]))]) (wr := [(di, .inl (dA 0, 168, .inl (fun i => zI (d i)))), (nw, .inl (dA 0, 12, .inl (fun i => zI (g i))))]) C (k_X9_refused l D dA m9 xt nw tr di ke ik wt (rf) (zs) ((sz : Int)) (ld) (sp) (ou) 0 (by omega)) (cwV 1 C.1.2.2.2.2 (hw_V tw_m_RX9_122 tw_i_X9_refused tw_s_X9_refused tw_n_RX9 tw_k_X9_refused) rfl rfl rfl (by decide +kernel) ⟨Nat.le_of_ble_eq_true rfl, Nat.le_of_ble_eq_true rfl⟩) (hv_pm [0] rfl) rfl 0 7 rfl rfl rfl (Nat.le_of_ble_eq_true rfl) dX9_wind_18 ⟨Nat.le_of_ble_eq_true rfl, Nat.le_of_ble_eq_true rfl⟩ (fun _ _ => ?_)
    have e9 : xc_wind z = none := by unfold xc_wind; (repeat' split) <;> first | rfl | (exfalso; omega)
    have e8 : mz_k1 (xc_wind z) = 0 := by rw [e9]; exact mz_k1n
    refine hv_eqst (st' := [.int (zI (zB (decide ((0 : Int) < 0))))]) rfl ?_
    refine hv_weq (ws' := [(m9, .inr (7, [.int (zI (0)), .ref xt, .int (zI (zs)), .ref nw, .ref tr, .ref di, .int (zI ((sz : Int))), .ref ke, .ref ik, .ref wt, .int (zI (ld)), .int (zI (sp)), .int (zI (ou))])), (di, .inl (dA 0, 168, .inl (fun i => zI (d i)))), (nw, .inl (dA 0, 12, .inl (fun i => zI (g i))))]) (rfl) ?_
    refine hv_if_eq C dX9_wind_21 (tgt := 26) (by decide) zB_0 (fun hc21 => ?_) (fun hc21 => ?_)
    · refine hv_aload_n C dX9_wind_26 0 rfl ?_
      refine hv_callV (As := []) (rest := []) (wc := [(m9, .inr (7, [.int (zI (0)), .ref xt, .int (zI (zs)), .ref nw, .ref tr, .ref di, .int (zI ((sz : Int))), .ref ke, .ref ik, .ref wt, .int (zI (ld)), .int (zI (sp)), .int (zI (ou))])), (di, .inl (dA 0, 168, .inl (fun i => zI (d i)))), (nw, .inl (dA 0, 12, .inl (fun i => zI (g i))))]) (wr := []) C (k_X9_remember l D dA m9 xt nw tr di ke ik wt (0) zs ld sp ou g nx sz j ct d hsz hnx ej hD) (cwV 0 C.1.2.2.2.2 (hw_V tw_m_RX9_175 tw_i_X9_remember tw_s_X9_remember tw_n_RX9 tw_k_X9_remember) rfl rfl rfl (by decide +kernel) ⟨Nat.le_of_ble_eq_true rfl, Nat.le_of_ble_eq_true rfl⟩) (hv_pm [0, 0, 0] rfl) rfl 0 7 rfl rfl rfl (Nat.le_of_ble_eq_true rfl) dX9_wind_27 ⟨Nat.le_of_ble_eq_true rfl, Nat.le_of_ble_eq_true rfl⟩ (fun u7 hu7 => ?_)
      refine hv_eqst (st' := []) rfl ?_
      refine hv_weq (ws' := [(m9, .inr (7, [.int (zI (0)), .ref xt, .int (zI (zs)), .ref nw, .ref tr, .ref di, .int (zI (((min (sz + 1) 14 : Nat) : Int))), .ref ke, .ref ik, .ref wt, .int (zI (ld)), .int (zI (sp)), .int (zI (ou))])), (di, .inl (dA 0, 168, .inl (fun i => zI (u7 i)))), (nw, .inl (dA 0, 12, .inl (fun i => zI (g i))))]) (rfl) ?_
      refine hv_aload_n C dX9_wind_30 0 rfl ?_
      refine hv_get C dX9_wind_31 (fun w h => hw_c (tw_u_9 w h)) 0 (ci := 7) rfl rfl 3 (by decide) (hw_c tw_f_RX9_13) rfl ?_
      refine hv_iload_n C dX9_wind_34 1 rfl ?_
      refine hv_callS (As := [.ref nw, .int (zI (z))]) (rest := []) (wc := [(nw, .inl (dA 0, 12, .inl (fun i => zI (g i))))]) (wr := [(m9, .inr (7, [.int (zI (0)), .ref xt, .int (zI (zs)), .ref nw, .ref tr, .ref di, .int (zI (((min (sz + 1) 14 : Nat) : Int))), .ref ke, .ref ik, .ref wt, .int (zI (ld)), .int (zI (sp)), .int (zI (ou))])), (di, .inl (dA 0, 168, .inl (fun i => zI (u7 i))))]) C (k_X9_windOn l D dA nw g z) (va_cwS 2 C.1.2.2.2.2 (hw_S tw_m_RX9_146 tw_t_X9_windOn tw_n_RX9 tw_k_X9_windOn) rfl rfl rfl (by decide +kernel) ⟨Nat.le_of_ble_eq_true rfl, Nat.le_of_ble_eq_true rfl⟩) (hv_pm [2] rfl) rfl rfl (Nat.le_of_ble_eq_true rfl) dX9_wind_35 ⟨Nat.le_of_ble_eq_true rfl, Nat.le_of_ble_eq_true rfl⟩ (fun _ _ => ?_)
      refine hv_eqst (st' := [.int (zI (g 2))]) rfl ?_
      refine hv_weq (ws' := [(nw, .inl (dA 0, 12, .inl (fun i => zI ((sp_set g 2 z) i)))), (m9, .inr (7, [.int (zI (0)), .ref xt, .int (zI (zs)), .ref nw, .ref tr, .ref di, .int (zI (((min (sz + 1) 14 : Nat) : Int))), .ref ke, .ref ik, .ref wt, .int (zI (ld)), .int (zI (sp)), .int (zI (ou))])), (di, .inl (dA 0, 168, .inl (fun i => zI (u7 i))))]) (rfl) ?_
      refine hv_srt [1, 1, 0] (ws' := [(m9, .inr (7, [.int (zI (0)), .ref xt, .int (zI (zs)), .ref nw, .ref tr, .ref di, .int (zI (((min (sz + 1) 14 : Nat) : Int))), .ref ke, .ref ik, .ref wt, .int (zI (ld)), .int (zI (sp)), .int (zI (ou))])), (di, .inl (dA 0, 168, .inl (fun i => zI (u7 i)))), (nw, .inl (dA 0, 12, .inl (fun i => zI ((sp_set g 2 z) i))))]) rfl ?_
      exact hv_iret C M dX9_wind_38 rfl rfl u7 (fun _ => hu7) (by rw [e9]; rfl) [] (List.Perm.of_eq (by rw [e8, e9]; rfl)) (Nat.le_refl _) (Nat.le_refl _)
    · exact absurd hc21 (by omega)

set_option maxHeartbeats 4000000 in
set_option maxRecDepth 100000 in
theorem k_X9_pass (l : Launch) (D : va_G) (dA : Nat → ClassId) (m9 xt nw tr di ke ik wt : Nat) (rf zs ld sp ou : Int) (g : Nat → Int) (hg : WF g) (nx sz j : Nat) (ct : Nat → Nat → Int) (d : Nat → Int) (hsz : sz ≤ 14) (hnx : nx ≤ 14) (ej : j = nx % 14) (hD : mz_D nx sz ct d) : hv_Ct l yX9_pass (hw_W yX9_pass cX9_pass 1 (some .int)) 2 D dA [.ref m9] ([(m9, .inr (7, [.int (zI (rf)), .ref xt, .int (zI (zs)), .ref nw, .ref tr, .ref di, .int (zI ((sz : Int))), .ref ke, .ref ik, .ref wt, .int (zI (ld)), .int (zI (sp)), .int (zI (ou))])), (di, .inl (dA 0, 168, .inl (fun i => zI (d i)))), (nw, .inl (dA 0, 12, .inl (fun i => zI (g i))))]) 0 0 (S := Nat → Int) (fun _ => some (.int (zI (1 - g 3)))) (fun u => mz_D (j + 1) (min (sz + 1) 14) (mo_ct ct j g) u) (fun u => [(m9, .inr (7, [.int (zI (0)), .ref xt, .int (zI (zs)), .ref nw, .ref tr, .ref di, .int (zI (((min (sz + 1) 14 : Nat) : Int))), .ref ke, .ref ik, .ref wt, .int (zI (ld)), .int (zI (sp)), .int (zI (ou))])), (di, .inl (dA 0, 168, .inl (fun i => zI (u i)))), (nw, .inl (dA 0, 12, .inl (fun i => zI ((ox_ps g) i))))]) := by
  refine hv_of (cc := cX9_pass) (maxL := 1) (ret := (some .int)) (own := RX9) rfl (by decide) rfl (Nat.le_of_ble_eq_true rfl) ?_
  intro p e s m args below meth c C M
  refine hv_lveq (lv' := [(0, .ref m9)]) rfl ?_
  refine hv_aload_n C dX9_pass_0 0 rfl ?_
  refine hv_iconst C dX9_pass_1 (v := zI (0)) rfl ?_
  refine hv_put C dX9_pass_2 (fun w h => hw_c (tw_u_9 w h)) tyX9 tyX9_ok nmX9 0 (ci := 7) (ty := .int) rfl rfl 0 (by decide) (hw_c tw_f_RX9_40) rfl rfl rfl rfl (Nat.le_of_ble_eq_true rfl) ?_
  refine hv_weq (ws' := [(m9, .inr (7, [.int (zI (0)), .ref xt, .int (zI (zs)), .ref nw, .ref tr, .ref di, .int (zI ((sz : Int))), .ref ke, .ref ik, .ref wt, .int (zI (ld)), .int (zI (sp)), .int (zI (ou))])), (di, .inl (dA 0, 168, .inl (fun i => zI (d i)))), (nw, .inl (dA 0, 12, .inl (fun i => zI (g i))))]) rfl ?_
  refine hv_aload_n C dX9_pass_5 0 rfl ?_
  refine hv_callV (As := []) (rest := []) (wc := [(m9, .inr (7, [.int (zI (0)), .ref xt, .int (zI (zs)), .ref nw, .ref tr, .ref di, .int (zI ((sz : Int))), .ref ke, .ref ik, .ref wt, .int (zI (ld)), .int (zI (sp)), .int (zI (ou))])), (di, .inl (dA 0, 168, .inl (fun i => zI (d i)))), (nw, .inl (dA 0, 12, .inl (fun i => zI (g i))))]) (wr := []) C (k_X9_remember l D dA m9 xt nw tr di ke ik wt (0) zs ld sp ou g nx sz j ct d hsz hnx ej hD) (cwV 0 C.1.2.2.2.2 (hw_V tw_m_RX9_175 tw_i_X9_remember tw_s_X9_remember tw_n_RX9 tw_k_X9_remember) rfl rfl rfl (by decide +kernel) ⟨Nat.le_of_ble_eq_true rfl, Nat.le_of_ble_eq_true rfl⟩) (hv_pm [0, 0, 0] rfl) rfl 0 7 rfl rfl rfl (Nat.le_of_ble_eq_true rfl) dX9_pass_6 ⟨Nat.le_of_ble_eq_true rfl, Nat.le_of_ble_eq_true rfl⟩ (fun u7 hu7 => ?_)
  refine hv_eqst (st' := []) rfl ?_
  refine hv_weq (ws' := [(m9, .inr (7, [.int (zI (0)), .ref xt, .int (zI (zs)), .ref nw, .ref tr, .ref di, .int (zI (((min (sz + 1) 14 : Nat) : Int))), .ref ke, .ref ik, .ref wt, .int (zI (ld)), .int (zI (sp)), .int (zI (ou))])), (di, .inl (dA 0, 168, .inl (fun i => zI (u7 i)))), (nw, .inl (dA 0, 12, .inl (fun i => zI (g i))))]) (rfl) ?_
  refine hv_aload_n C dX9_pass_9 0 rfl ?_
  refine hv_get C dX9_pass_10 (fun w h => hw_c (tw_u_9 w h)) 0 (ci := 7) rfl rfl 3 (by decide) (hw_c tw_f_RX9_13) rfl ?_
  refine hv_callS (As := [.ref nw]) (rest := []) (wc := [(nw, .inl (dA 0, 12, .inl (fun i => zI (g i))))]) (wr := [(m9, .inr (7, [.int (zI (0)), .ref xt, .int (zI (zs)), .ref nw, .ref tr, .ref di, .int (zI (((min (sz + 1) 14 : Nat) : Int))), .ref ke, .ref ik, .ref wt, .int (zI (ld)), .int (zI (sp)), .int (zI (ou))])), (di, .inl (dA 0, 168, .inl (fun i => zI (u7 i))))]) C (k_X9_passOn l D dA nw g) (va_cwS 1 C.1.2.2.2.2 (hw_S tw_m_RX9_149 tw_t_X9_passOn tw_n_RX9 tw_k_X9_passOn) rfl rfl rfl (by decide +kernel) ⟨Nat.le_of_ble_eq_true rfl, Nat.le_of_ble_eq_true rfl⟩) (hv_pm [2] rfl) rfl rfl (Nat.le_of_ble_eq_true rfl) dX9_pass_13 ⟨Nat.le_of_ble_eq_true rfl, Nat.le_of_ble_eq_true rfl⟩ (fun _ _ => ?_)
  refine hv_eqst (st' := [.int (zI (1 - g 3))]) rfl ?_
  refine hv_weq (ws' := [(nw, .inl (dA 0, 12, .inl (fun i => zI ((ox_ps g) i)))), (m9, .inr (7, [.int (zI (0)), .ref xt, .int (zI (zs)), .ref nw, .ref tr, .ref di, .int (zI (((min (sz + 1) 14 : Nat) : Int))), .ref ke, .ref ik, .ref wt, .int (zI (ld)), .int (zI (sp)), .int (zI (ou))])), (di, .inl (dA 0, 168, .inl (fun i => zI (u7 i))))]) (rfl) ?_
  refine hv_srt [1, 1, 0] (ws' := [(m9, .inr (7, [.int (zI (0)), .ref xt, .int (zI (zs)), .ref nw, .ref tr, .ref di, .int (zI (((min (sz + 1) 14 : Nat) : Int))), .ref ke, .ref ik, .ref wt, .int (zI (ld)), .int (zI (sp)), .int (zI (ou))])), (di, .inl (dA 0, 168, .inl (fun i => zI (u7 i)))), (nw, .inl (dA 0, 12, .inl (fun i => zI ((ox_ps g) i))))]) rfl ?_
  exact hv_iret C M dX9_pass_16 rfl rfl u7 hu7 rfl [] (List.Perm.of_eq (by first | rfl | exact (List.append_nil _).symm)) (Nat.le_refl _) (Nat.le_refl _)

theorem mz_sett {a v : Int} : xc_sett a v = if 0 ≤ a ∧ a ≤ 1 ∧ 1 ≤ v ∧ v ≤ (if a = 0 then 9 else 3) then none else some hx_IAE := by
  unfold xc_sett xc_set
  by_cases q : 0 ≤ a ∧ a ≤ 1
  · rw [if_pos q]
    by_cases r : 1 ≤ v ∧ v ≤ (if a = 0 then 9 else 3)
    · rw [if_pos r, if_pos (show 0 ≤ a ∧ a ≤ 1 ∧ 1 ≤ v ∧ v ≤ (if a = 0 then 9 else 3) from ⟨q.1, q.2, r⟩)]
      rfl
    · rw [if_neg r, if_neg (show ¬ (0 ≤ a ∧ a ≤ 1 ∧ 1 ≤ v ∧ v ≤ (if a = 0 then 9 else 3)) from fun z => r z.2.2)]
      rfl
  · rw [if_neg q, if_neg (show ¬ (0 ≤ a ∧ a ≤ 1 ∧ 1 ≤ v ∧ v ≤ (if a = 0 then 9 else 3)) from fun z => q ⟨z.1, z.2.1⟩)]
    rfl

set_option maxHeartbeats 4000000 in
set_option maxRecDepth 100000 in
theorem k_X9_set (l : Launch) (D : va_G) (dA : Nat → ClassId) (m9 xt nw tr di ke ik wt : Nat) (rf zs ld sp ou : Int) (g : Nat → Int) (hg : WF g) (nx sz j : Nat) (ct : Nat → Nat → Int) (d : Nat → Int) (hsz : sz ≤ 14) (hnx : nx ≤ 14) (ej : j = nx % 14) (hD : mz_D nx sz ct d) (a : Int) (ha : -2147483648 ≤ a ∧ a < 2147483648) (v : Int) (hv : -2147483648 ≤ v ∧ v < 2147483648) : hv_Ct l yX9_set (hw_W yX9_set cX9_set 4 (some .int)) 2 D dA [.ref m9, .int (zI (a)), .int (zI (v))] ([(m9, .inr (7, [.int (zI (rf)), .ref xt, .int (zI (zs)), .ref nw, .ref tr, .ref di, .int (zI ((sz : Int))), .ref ke, .ref ik, .ref wt, .int (zI (ld)), .int (zI (sp)), .int (zI (ou))])), (di, .inl (dA 0, 168, .inl (fun i => zI (d i)))), (nw, .inl (dA 0, 12, .inl (fun i => zI (g i))))]) 0 0 (S := Nat → Int) (fun _ => mz_w (xc_sett a v) (some (.int (zI (if a = 0 then g 4 else g 5)))) (some (.int (zI 0)))) (fun u => xc_sett a v = none → mz_D (j + 1) (min (sz + 1) 14) (mo_ct ct j g) u) (fun u => mz_w (xc_sett a v) ([(m9, .inr (7, [.int (zI (mz_k1 (xc_sett a v))), .ref xt, .int (zI (zs)), .ref nw, .ref tr, .ref di, .int (zI (((min (sz + 1) 14 : Nat) : Int))), .ref ke, .ref ik, .ref wt, .int (zI (ld)), .int (zI (sp)), .int (zI (ou))])), (di, .inl (dA 0, 168, .inl (fun i => zI (u i)))), (nw, .inl (dA 0, 12, .inl (fun i => zI ((if a = 0 then sp_set g 4 v else sp_set g 5 v) i))))]) ([(m9, .inr (7, [.int (zI (mz_k1 (xc_sett a v))), .ref xt, .int (zI (zs)), .ref nw, .ref tr, .ref di, .int (zI ((sz : Int))), .ref ke, .ref ik, .ref wt, .int (zI (ld)), .int (zI (sp)), .int (zI (ou))])), (di, .inl (dA 0, 168, .inl (fun i => zI (d i)))), (nw, .inl (dA 0, 12, .inl (fun i => zI (g i))))])) := by
  have hg0 := hg.1
  have hg1 := hg.e1
  have hgx := hg.x
  have hg5 := hg.2.2.2.2.2
  have hgR := hg.R
  have hgS := hg.S
  have hge0 := hg.e0
  have hge5 := hg.e5
  refine hv_of (cc := cX9_set) (maxL := 4) (ret := (some .int)) (own := RX9) rfl (by decide) rfl (Nat.le_of_ble_eq_true rfl) ?_
  intro p e s m args below meth c C M
  refine hv_lveq (lv' := [(0, .ref m9), (1, .int (zI (a))), (2, .int (zI (v)))]) rfl ?_
  refine hv_aload_n C dX9_set_0 0 rfl ?_
  refine hv_iload_n C dX9_set_1 1 rfl ?_
  refine hv_iload_n C dX9_set_2 2 rfl ?_
  refine hv_callS (As := [.int (zI (a)), .int (zI (v))]) (rest := [.ref m9]) (wc := []) (wr := [(m9, .inr (7, [.int (zI (rf)), .ref xt, .int (zI (zs)), .ref nw, .ref tr, .ref di, .int (zI ((sz : Int))), .ref ke, .ref ik, .ref wt, .int (zI (ld)), .int (zI (sp)), .int (zI (ou))])), (di, .inl (dA 0, 168, .inl (fun i => zI (d i)))), (nw, .inl (dA 0, 12, .inl (fun i => zI (g i))))]) C (k_X9_isSetting l D dA a ha v hv) (va_cwS 2 C.1.2.2.2.2 (hw_S tw_m_RX9_178 tw_t_X9_isSetting tw_n_RX9 tw_k_X9_isSetting) rfl rfl rfl (by decide +kernel) ⟨Nat.le_of_ble_eq_true rfl, Nat.le_of_ble_eq_true rfl⟩) (hv_pm [] rfl) rfl rfl (Nat.le_of_ble_eq_true rfl) dX9_set_3 ⟨Nat.le_of_ble_eq_true rfl, Nat.le_of_ble_eq_true rfl⟩ (fun _ _ => ?_)
  refine hv_eqst (st' := [.int (zI (zB (decide (0 ≤ a ∧ a ≤ 1 ∧ 1 ≤ v ∧ v ≤ (if a = 0 then 9 else 3))))), .ref m9]) rfl ?_
  refine hv_weq (ws' := [(m9, .inr (7, [.int (zI (rf)), .ref xt, .int (zI (zs)), .ref nw, .ref tr, .ref di, .int (zI ((sz : Int))), .ref ke, .ref ik, .ref wt, .int (zI (ld)), .int (zI (sp)), .int (zI (ou))])), (di, .inl (dA 0, 168, .inl (fun i => zI (d i)))), (nw, .inl (dA 0, 12, .inl (fun i => zI (g i))))]) (rfl) ?_
  refine hv_if_eq C dX9_set_6 (tgt := 13) (by decide) zB_0 (fun hc6 => ?_) (fun hc6 => ?_)
  · refine hv_iconst C dX9_set_13 (v := zI (1)) rfl ?_
    refine hv_callV (As := [.int (zI (1))]) (rest := []) (wc := [(m9, .inr (7, [.int (zI (rf)), .ref xt, .int (zI (zs)), .ref nw, .ref tr, .ref di, .int (zI ((sz : Int))), .ref ke, .ref ik, .ref wt, .int (zI (ld)), .int (zI (sp)), .int (zI (ou))]))]) (wr := [(di, .inl (dA 0, 168, .inl (fun i => zI (d i)))), (nw, .inl (dA 0, 12, .inl (fun i => zI (g i))))]) C (k_X9_refused l D dA m9 xt nw tr di ke ik wt (rf) (zs) ((sz : Int)) (ld) (sp) (ou) 1 (by omega)) (cwV 1 C.1.2.2.2.2 (hw_V tw_m_RX9_122 tw_i_X9_refused tw_s_X9_refused tw_n_RX9 tw_k_X9_refused) rfl rfl rfl (by decide +kernel) ⟨Nat.le_of_ble_eq_true rfl, Nat.le_of_ble_eq_true rfl⟩) (hv_pm [0] rfl) rfl 0 7 rfl rfl rfl (Nat.le_of_ble_eq_true rfl) dX9_set_14 ⟨Nat.le_of_ble_eq_true rfl, Nat.le_of_ble_eq_true rfl⟩ (fun _ _ => ?_)
    have e9 : xc_sett a v = some hx_IAE := by rw [mz_sett, if_neg hc6]
    have e8 : mz_k1 (xc_sett a v) = 1 := by rw [e9]; exact mz_k1s
    refine hv_eqst (st' := [.int (zI (zB (decide ((0 : Int) < 1))))]) rfl ?_
    refine hv_weq (ws' := [(m9, .inr (7, [.int (zI (1)), .ref xt, .int (zI (zs)), .ref nw, .ref tr, .ref di, .int (zI ((sz : Int))), .ref ke, .ref ik, .ref wt, .int (zI (ld)), .int (zI (sp)), .int (zI (ou))])), (di, .inl (dA 0, 168, .inl (fun i => zI (d i)))), (nw, .inl (dA 0, 12, .inl (fun i => zI (g i))))]) (rfl) ?_
    refine hv_if_eq C dX9_set_17 (tgt := 22) (by decide) zB_0 (fun hc17 => ?_) (fun hc17 => ?_)
    · exact absurd hc17 (by omega)
    · refine hv_iconst C dX9_set_20 (v := zI (0)) rfl ?_
      exact hv_iret C M dX9_set_21 rfl rfl d (fun q => absurd (e9.symm.trans q) (by simp)) (by rw [e9]; rfl) [] (List.Perm.of_eq (by rw [e8, e9]; rfl)) (Nat.le_refl _) (Nat.le_refl _)
  · refine hv_iconst C dX9_set_9 (v := zI (0)) rfl ?_
    refine hv_goto C dX9_set_10 (tgt := 14) (by decide) ?_
    refine hv_callV (As := [.int (zI (0))]) (rest := []) (wc := [(m9, .inr (7, [.int (zI (rf)), .ref xt, .int (zI (zs)), .ref nw, .ref tr, .ref di, .int (zI ((sz : Int))), .ref ke, .ref ik, .ref wt, .int (zI (ld)), .int (zI (sp)), .int (zI (ou))]))]) (wr := [(di, .inl (dA 0, 168, .inl (fun i => zI (d i)))), (nw, .inl (dA 0, 12, .inl (fun i => zI (g i))))]) C (k_X9_refused l D dA m9 xt nw tr di ke ik wt (rf) (zs) ((sz : Int)) (ld) (sp) (ou) 0 (by omega)) (cwV 1 C.1.2.2.2.2 (hw_V tw_m_RX9_122 tw_i_X9_refused tw_s_X9_refused tw_n_RX9 tw_k_X9_refused) rfl rfl rfl (by decide +kernel) ⟨Nat.le_of_ble_eq_true rfl, Nat.le_of_ble_eq_true rfl⟩) (hv_pm [0] rfl) rfl 0 7 rfl rfl rfl (Nat.le_of_ble_eq_true rfl) dX9_set_14 ⟨Nat.le_of_ble_eq_true rfl, Nat.le_of_ble_eq_true rfl⟩ (fun _ _ => ?_)
    have e9 : xc_sett a v = none := by rw [mz_sett, if_pos (Decidable.not_not.mp hc6)]
    have e8 : mz_k1 (xc_sett a v) = 0 := by rw [e9]; exact mz_k1n
    refine hv_eqst (st' := [.int (zI (zB (decide ((0 : Int) < 0))))]) rfl ?_
    refine hv_weq (ws' := [(m9, .inr (7, [.int (zI (0)), .ref xt, .int (zI (zs)), .ref nw, .ref tr, .ref di, .int (zI ((sz : Int))), .ref ke, .ref ik, .ref wt, .int (zI (ld)), .int (zI (sp)), .int (zI (ou))])), (di, .inl (dA 0, 168, .inl (fun i => zI (d i)))), (nw, .inl (dA 0, 12, .inl (fun i => zI (g i))))]) (rfl) ?_
    refine hv_if_eq C dX9_set_17 (tgt := 22) (by decide) zB_0 (fun hc17 => ?_) (fun hc17 => ?_)
    · refine hv_aload_n C dX9_set_22 0 rfl ?_
      refine hv_callV (As := []) (rest := []) (wc := [(m9, .inr (7, [.int (zI (0)), .ref xt, .int (zI (zs)), .ref nw, .ref tr, .ref di, .int (zI ((sz : Int))), .ref ke, .ref ik, .ref wt, .int (zI (ld)), .int (zI (sp)), .int (zI (ou))])), (di, .inl (dA 0, 168, .inl (fun i => zI (d i)))), (nw, .inl (dA 0, 12, .inl (fun i => zI (g i))))]) (wr := []) C (k_X9_remember l D dA m9 xt nw tr di ke ik wt (0) zs ld sp ou g nx sz j ct d hsz hnx ej hD) (cwV 0 C.1.2.2.2.2 (hw_V tw_m_RX9_175 tw_i_X9_remember tw_s_X9_remember tw_n_RX9 tw_k_X9_remember) rfl rfl rfl (by decide +kernel) ⟨Nat.le_of_ble_eq_true rfl, Nat.le_of_ble_eq_true rfl⟩) (hv_pm [0, 0, 0] rfl) rfl 0 7 rfl rfl rfl (Nat.le_of_ble_eq_true rfl) dX9_set_23 ⟨Nat.le_of_ble_eq_true rfl, Nat.le_of_ble_eq_true rfl⟩ (fun u7 hu7 => ?_)
      refine hv_eqst (st' := []) rfl ?_
      refine hv_weq (ws' := [(m9, .inr (7, [.int (zI (0)), .ref xt, .int (zI (zs)), .ref nw, .ref tr, .ref di, .int (zI (((min (sz + 1) 14 : Nat) : Int))), .ref ke, .ref ik, .ref wt, .int (zI (ld)), .int (zI (sp)), .int (zI (ou))])), (di, .inl (dA 0, 168, .inl (fun i => zI (u7 i)))), (nw, .inl (dA 0, 12, .inl (fun i => zI (g i))))]) (rfl) ?_
      refine hv_aload_n C dX9_set_26 0 rfl ?_
      refine hv_get C dX9_set_27 (fun w h => hw_c (tw_u_9 w h)) 0 (ci := 7) rfl rfl 3 (by decide) (hw_c tw_f_RX9_13) rfl ?_
      refine hv_iconst C dX9_set_30 (v := zI (4)) rfl ?_
      refine hv_iload_n C dX9_set_31 1 rfl ?_
      refine hv_iadd C dX9_set_32 (zI_add _ _) ?_
      have hc6b := Decidable.not_not.mp hc6
      have hca : 0 ≤ a ∧ a ≤ 1 := ⟨hc6b.1, hc6b.2.1⟩
      refine hv_iald C dX9_set_33 2 rfl ((4 + a).toNat) (zI_ix (by omega)) (by omega) (by omega) (v := (zI (if a = 0 then g 4 else g 5))) (by rcases (show a = 0 ∨ a = 1 by omega) with rfl | rfl <;> rfl) ?_
      refine hv_istore_n C dX9_set_34 (lw := [(3, .int (zI (if a = 0 then g 4 else g 5))), (0, .ref m9), (1, .int (zI (a))), (2, .int (zI (v)))]) (by decide) rfl ?_
      refine hv_aload_n C dX9_set_35 1 rfl ?_
      refine hv_get C dX9_set_36 (fun w h => hw_c (tw_u_9 w h)) 0 (ci := 7) rfl rfl 3 (by decide) (hw_c tw_f_RX9_13) rfl ?_
      refine hv_iconst C dX9_set_39 (v := zI (4)) rfl ?_
      refine hv_iload_n C dX9_set_40 2 rfl ?_
      refine hv_iadd C dX9_set_41 (zI_add _ _) ?_
      refine hv_iload_n C dX9_set_42 3 rfl ?_
      refine hv_iast C dX9_set_43 2 rfl ((4 + a).toNat) (zI_ix (by omega)) (by omega) (by omega) ?_
      refine hv_weq (ws' := [(m9, .inr (7, [.int (zI (0)), .ref xt, .int (zI (zs)), .ref nw, .ref tr, .ref di, .int (zI (((min (sz + 1) 14 : Nat) : Int))), .ref ke, .ref ik, .ref wt, .int (zI (ld)), .int (zI (sp)), .int (zI (ou))])), (di, .inl (dA 0, 168, .inl (fun i => zI (u7 i)))), (nw, .inl (dA 0, 12, .inl (fun i => zI ((if a = 0 then sp_set g 4 v else sp_set g 5 v) i))))]) (by rw [sp_upd]; rcases (show a = 0 ∨ a = 1 by omega) with rfl | rfl <;> rfl) ?_
      refine hv_iload_n C dX9_set_44 0 rfl ?_
      exact hv_iret C M dX9_set_45 rfl rfl u7 (fun _ => hu7) (by rw [e9]; rfl) [] (List.Perm.of_eq (by rw [e8, e9]; rfl)) (Nat.le_refl _) (Nat.le_refl _)
    · exact absurd hc17 (by omega)

set_option maxHeartbeats 4000000 in
set_option maxRecDepth 100000 in
theorem k_X9_undo (l : Launch) (D : va_G) (dA : Nat → ClassId) (m9 xt nw tr di ke ik wt : Nat) (rf zs ld sp ou : Int) (g : Nat → Int) (nx sz j : Nat) (ct : Nat → Nat → Int) (d : Nat → Int) (hsz : sz ≤ 14) (hnx : nx ≤ 14) (ej : j = (nx + 13) % 14) (hD : mz_D nx sz ct d) : hv_Ct l yX9_undo (hw_W yX9_undo cX9_undo 1 (some .int)) 1 D dA [.ref m9] ([(m9, .inr (7, [.int (zI (rf)), .ref xt, .int (zI (zs)), .ref nw, .ref tr, .ref di, .int (zI ((sz : Int))), .ref ke, .ref ik, .ref wt, .int (zI (ld)), .int (zI (sp)), .int (zI (ou))])), (di, .inl (dA 0, 168, .inl (fun i => zI (d i)))), (nw, .inl (dA 0, 12, .inl (fun i => zI (g i))))]) 0 0 (S := Unit) (fun _ => mz_w (xc_undo sz) (some (.int (zI (((sz - 1 : Nat) : Int))))) (some (.int (zI 0)))) (fun _ => True) (fun u => mz_w (xc_undo sz) ([(m9, .inr (7, [.int (zI (mz_k1 (xc_undo sz))), .ref xt, .int (zI (zs)), .ref nw, .ref tr, .ref di, .int (zI (((sz - 1 : Nat) : Int))), .ref ke, .ref ik, .ref wt, .int (zI (ld)), .int (zI (sp)), .int (zI (ou))])), (di, .inl (dA 0, 168, .inl (fun i => zI (d i)))), (nw, .inl (dA 0, 12, .inl (fun i => zI ((ct j) i))))]) ([(m9, .inr (7, [.int (zI (mz_k1 (xc_undo sz))), .ref xt, .int (zI (zs)), .ref nw, .ref tr, .ref di, .int (zI ((sz : Int))), .ref ke, .ref ik, .ref wt, .int (zI (ld)), .int (zI (sp)), .int (zI (ou))])), (di, .inl (dA 0, 168, .inl (fun i => zI (d i)))), (nw, .inl (dA 0, 12, .inl (fun i => zI (g i))))])) := by
  refine hv_of (cc := cX9_undo) (maxL := 1) (ret := (some .int)) (own := RX9) rfl (by decide) rfl (Nat.le_of_ble_eq_true rfl) ?_
  intro p e s m args below meth c C M
  refine hv_lveq (lv' := [(0, .ref m9)]) rfl ?_
  refine hv_aload_n C dX9_undo_0 0 rfl ?_
  refine hv_aload_n C dX9_undo_1 0 rfl ?_
  refine hv_get C dX9_undo_2 (fun w h => hw_c (tw_u_9 w h)) 0 (ci := 7) rfl rfl 6 (by decide) (hw_c tw_f_RX9_166) rfl ?_
  refine hv_if_ne C dX9_undo_5 (tgt := 12) (by decide) (zI_ne0 (by omega)) (fun hc5 => ?_) (fun hc5 => ?_)
  · refine hv_iconst C dX9_undo_12 (v := zI (0)) rfl ?_
    refine hv_callV (As := [.int (zI (0))]) (rest := []) (wc := [(m9, .inr (7, [.int (zI (rf)), .ref xt, .int (zI (zs)), .ref nw, .ref tr, .ref di, .int (zI ((sz : Int))), .ref ke, .ref ik, .ref wt, .int (zI (ld)), .int (zI (sp)), .int (zI (ou))]))]) (wr := [(di, .inl (dA 0, 168, .inl (fun i => zI (d i)))), (nw, .inl (dA 0, 12, .inl (fun i => zI (g i))))]) C (k_X9_refused l D dA m9 xt nw tr di ke ik wt (rf) (zs) ((sz : Int)) (ld) (sp) (ou) 0 (by omega)) (cwV 1 C.1.2.2.2.2 (hw_V tw_m_RX9_122 tw_i_X9_refused tw_s_X9_refused tw_n_RX9 tw_k_X9_refused) rfl rfl rfl (by decide +kernel) ⟨Nat.le_of_ble_eq_true rfl, Nat.le_of_ble_eq_true rfl⟩) (hv_pm [0] rfl) rfl 0 7 rfl rfl rfl (Nat.le_of_ble_eq_true rfl) dX9_undo_13 ⟨Nat.le_of_ble_eq_true rfl, Nat.le_of_ble_eq_true rfl⟩ (fun _ _ => ?_)
    have e9 : xc_undo sz = none := by unfold xc_undo; (repeat' split) <;> first | rfl | (exfalso; omega)
    have e8 : mz_k1 (xc_undo sz) = 0 := by rw [e9]; exact mz_k1n
    refine hv_eqst (st' := [.int (zI (zB (decide ((0 : Int) < 0))))]) rfl ?_
    refine hv_weq (ws' := [(m9, .inr (7, [.int (zI (0)), .ref xt, .int (zI (zs)), .ref nw, .ref tr, .ref di, .int (zI ((sz : Int))), .ref ke, .ref ik, .ref wt, .int (zI (ld)), .int (zI (sp)), .int (zI (ou))])), (di, .inl (dA 0, 168, .inl (fun i => zI (d i)))), (nw, .inl (dA 0, 12, .inl (fun i => zI (g i))))]) (rfl) ?_
    refine hv_if_eq C dX9_undo_16 (tgt := 21) (by decide) zB_0 (fun hc16 => ?_) (fun hc16 => ?_)
    · refine hv_aload_n C dX9_undo_21 0 rfl ?_
      refine hv_dup C dX9_undo_22 rfl ?_
      refine hv_get C dX9_undo_23 (fun w h => hw_c (tw_u_9 w h)) 0 (ci := 7) rfl rfl 6 (by decide) (hw_c tw_f_RX9_166) rfl ?_
      refine hv_iconst C dX9_undo_26 (v := zI (1)) rfl ?_
      refine hv_isub C dX9_undo_27 (z := zI (((sz - 1 : Nat) : Int))) ((zI_sub _ _).trans (zI_c (by omega))) ?_
      refine hv_put C dX9_undo_28 (fun w h => hw_c (tw_u_9 w h)) tyX9 tyX9_ok nmX9 0 (ci := 7) (ty := .int) rfl rfl 6 (by decide) (hw_c tw_f_RX9_166) rfl rfl rfl rfl (Nat.le_of_ble_eq_true rfl) ?_
      refine hv_weq (ws' := [(m9, .inr (7, [.int (zI (0)), .ref xt, .int (zI (zs)), .ref nw, .ref tr, .ref di, .int (zI (((sz - 1 : Nat) : Int))), .ref ke, .ref ik, .ref wt, .int (zI (ld)), .int (zI (sp)), .int (zI (ou))])), (di, .inl (dA 0, 168, .inl (fun i => zI (d i)))), (nw, .inl (dA 0, 12, .inl (fun i => zI (g i))))]) rfl ?_
      refine hv_aload_n C dX9_undo_31 0 rfl ?_
      refine hv_get C dX9_undo_32 (fun w h => hw_c (tw_u_9 w h)) 0 (ci := 7) rfl rfl 5 (by decide) (hw_c tw_f_RX9_19) rfl ?_
      refine hv_bipush C dX9_undo_35 (v := zI (12)) (by decide +kernel) ?_
      refine hv_aload_n C dX9_undo_37 0 rfl ?_
      refine hv_get C dX9_undo_38 (fun w h => hw_c (tw_u_9 w h)) 0 (ci := 7) rfl rfl 6 (by decide) (hw_c tw_f_RX9_166) rfl ?_
      refine hv_imul C dX9_undo_41 (z := zI (((12 * (sz - 1) : Nat) : Int))) ((zI_mul _ _).trans (zI_c (by omega))) ?_
      refine hv_aload_n C dX9_undo_42 0 rfl ?_
      refine hv_get C dX9_undo_43 (fun w h => hw_c (tw_u_9 w h)) 0 (ci := 7) rfl rfl 3 (by decide) (hw_c tw_f_RX9_13) rfl ?_
      refine hv_iconst C dX9_undo_46 (v := zI (0)) rfl ?_
      refine hv_callS (As := [.ref di, .int (zI (((12 * (sz - 1) : Nat) : Int))), .ref nw, .int (zI (0))]) (rest := []) (wc := [(di, .inl (dA 0, 168, .inl (fun i => zI (d i)))), (nw, .inl (dA 0, 12, .inl (fun i => zI (g i))))]) (wr := [(m9, .inr (7, [.int (zI (0)), .ref xt, .int (zI (zs)), .ref nw, .ref tr, .ref di, .int (zI (((sz - 1 : Nat) : Int))), .ref ke, .ref ik, .ref wt, .int (zI (ld)), .int (zI (sp)), .int (zI (ou))]))]) C (k_X9_copyState l D dA di nw 168 12 d g (12 * (sz - 1)) 0 (by omega) rfl (by omega) (by omega) (by omega) (by omega)) (va_cwS 4 C.1.2.2.2.2 (hw_S tw_m_RX9_162 tw_t_X9_copyState tw_n_RX9 tw_k_X9_copyState) rfl rfl rfl (by decide +kernel) ⟨Nat.le_of_ble_eq_true rfl, Nat.le_of_ble_eq_true rfl⟩) (hv_pm [1, 1] rfl) rfl rfl (Nat.le_of_ble_eq_true rfl) dX9_undo_47 ⟨Nat.le_of_ble_eq_true rfl, Nat.le_of_ble_eq_true rfl⟩ (fun _ _ => ?_)
      refine hv_eqst (st' := []) rfl ?_
      refine hv_weq (ws' := [(di, .inl (dA 0, 168, .inl (fun i => zI (d i)))), (nw, .inl (dA 0, 12, .inl (fun i => zI ((mz_c g d (12 * (sz - 1)) 0 12) i)))), (m9, .inr (7, [.int (zI (0)), .ref xt, .int (zI (zs)), .ref nw, .ref tr, .ref di, .int (zI (((sz - 1 : Nat) : Int))), .ref ke, .ref ik, .ref wt, .int (zI (ld)), .int (zI (sp)), .int (zI (ou))]))]) (rfl) ?_
      refine hv_srt [2, 0, 0] (ws' := [(m9, .inr (7, [.int (zI (0)), .ref xt, .int (zI (zs)), .ref nw, .ref tr, .ref di, .int (zI (((sz - 1 : Nat) : Int))), .ref ke, .ref ik, .ref wt, .int (zI (ld)), .int (zI (sp)), .int (zI (ou))])), (di, .inl (dA 0, 168, .inl (fun i => zI (d i)))), (nw, .inl (dA 0, 12, .inl (fun i => zI ((mz_c g d (12 * (sz - 1)) 0 12) i))))]) rfl ?_
      refine hv_acg 2 (f' := fun i => zI ((ct j) i)) rfl (fun i hi => ?_) rfl ?_
      · exact congrArg zI ((by rw [mz_c_eq, if_pos (by omega), show 12 * (sz - 1) + (i - 0) = 12 * (sz - 1) + i by omega]; exact mz_D_top (by omega) hsz ej hD i hi))
      refine hv_aload_n C dX9_undo_50 0 rfl ?_
      refine hv_get C dX9_undo_51 (fun w h => hw_c (tw_u_9 w h)) 0 (ci := 7) rfl rfl 6 (by decide) (hw_c tw_f_RX9_166) rfl ?_
      exact hv_iret C M dX9_undo_54 rfl rfl () trivial (by rw [e9]; rfl) [] (List.Perm.of_eq (by rw [e8, e9]; rfl)) (Nat.le_refl _) (Nat.le_refl _)
    · exact absurd hc16 (by omega)
  · refine hv_iconst C dX9_undo_8 (v := zI (1)) rfl ?_
    refine hv_goto C dX9_undo_9 (tgt := 13) (by decide) ?_
    refine hv_callV (As := [.int (zI (1))]) (rest := []) (wc := [(m9, .inr (7, [.int (zI (rf)), .ref xt, .int (zI (zs)), .ref nw, .ref tr, .ref di, .int (zI ((sz : Int))), .ref ke, .ref ik, .ref wt, .int (zI (ld)), .int (zI (sp)), .int (zI (ou))]))]) (wr := [(di, .inl (dA 0, 168, .inl (fun i => zI (d i)))), (nw, .inl (dA 0, 12, .inl (fun i => zI (g i))))]) C (k_X9_refused l D dA m9 xt nw tr di ke ik wt (rf) (zs) ((sz : Int)) (ld) (sp) (ou) 1 (by omega)) (cwV 1 C.1.2.2.2.2 (hw_V tw_m_RX9_122 tw_i_X9_refused tw_s_X9_refused tw_n_RX9 tw_k_X9_refused) rfl rfl rfl (by decide +kernel) ⟨Nat.le_of_ble_eq_true rfl, Nat.le_of_ble_eq_true rfl⟩) (hv_pm [0] rfl) rfl 0 7 rfl rfl rfl (Nat.le_of_ble_eq_true rfl) dX9_undo_13 ⟨Nat.le_of_ble_eq_true rfl, Nat.le_of_ble_eq_true rfl⟩ (fun _ _ => ?_)
    have e9 : xc_undo sz = some hx_ISE := by unfold xc_undo; (repeat' split) <;> first | rfl | (exfalso; omega)
    have e8 : mz_k1 (xc_undo sz) = 1 := by rw [e9]; exact mz_k1s
    refine hv_eqst (st' := [.int (zI (zB (decide ((0 : Int) < 1))))]) rfl ?_
    refine hv_weq (ws' := [(m9, .inr (7, [.int (zI (1)), .ref xt, .int (zI (zs)), .ref nw, .ref tr, .ref di, .int (zI ((sz : Int))), .ref ke, .ref ik, .ref wt, .int (zI (ld)), .int (zI (sp)), .int (zI (ou))])), (di, .inl (dA 0, 168, .inl (fun i => zI (d i)))), (nw, .inl (dA 0, 12, .inl (fun i => zI (g i))))]) (rfl) ?_
    refine hv_if_eq C dX9_undo_16 (tgt := 21) (by decide) zB_0 (fun hc16 => ?_) (fun hc16 => ?_)
    · exact absurd hc16 (by omega)
    · refine hv_iconst C dX9_undo_19 (v := zI (0)) rfl ?_
      exact hv_iret C M dX9_undo_20 rfl rfl () trivial (by rw [e9]; rfl) [] (List.Perm.of_eq (by rw [e8, e9]; rfl)) (Nat.le_refl _) (Nat.le_refl _)
