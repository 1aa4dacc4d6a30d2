/-! the model: worths -/
def mz_key (g : Nat → Int) : Int := g 0 + 10 * g 2 + 100 * g 4 + 1000 * g 5
def mz_ws (g wv : Nat → Int) : Prop := ∀ h, h < 4 ^ gS g → wv h = g 4 * ox_wo g h
def mz_LW (ld : Int) (wv : Nat → Int) : Prop := ld = -1 ∨ ∃ g, WF g ∧ ld = mz_key g ∧ mz_ws g wv
theorem mz_key_ran {g : Nat → Int} (h : WF g) : 0 < mz_key g ∧ mz_key g < 10000 := by
  have h0 := h.1; have h2 := h.2.2.1; have h4 := h.2.2.2.2.1; have h5 := h.2.2.2.2.2
  unfold mz_key
  omega
theorem mz_LW_ran {ld : Int} {wv : Nat → Int} (h : mz_LW ld wv) : -1 ≤ ld ∧ ld < 10000 := by
  rcases h with h | ⟨g, hg, h, -⟩
  · omega
  · have := mz_key_ran hg
    omega
theorem mz_LW_same {ld : Int} {wv g : Nat → Int} (hg : WF g) (h : mz_LW ld wv) (e : mz_key g = ld) : mz_ws g wv := by
  have h9 := mz_key_ran hg
  rcases h with h | ⟨g', hg', h, hw⟩
  · omega
  · have a0 := hg.1; have a2 := hg.2.2.1; have a4 := hg.2.2.2.2.1; have a5 := hg.2.2.2.2.2
    have b0 := hg'.1; have b2 := hg'.2.2.1; have b4 := hg'.2.2.2.2.1; have b5 := hg'.2.2.2.2.2
    unfold mz_key at e h
    have e0 : g 0 = g' 0 := by omega
    have e2 : g 2 = g' 2 := by omega
    have e4 : g 4 = g' 4 := by omega
    have e5 : g 5 = g' 5 := by omega
    intro b hb
    unfold ox_wo gS gW gR at *
    rw [e0] at hb ⊢
    rw [e2, e4, e5]
    exact hw b hb
theorem mz_LW_new {wv g : Nat → Int} (hg : WF g) (h : mz_ws g wv) : mz_LW (mz_key g) wv := Or.inr ⟨g, hg, rfl, h⟩
/-- what a clip is worth by the table -/
def mz_T (g wv : Nat → Int) (h c9 : Nat) : Int := -(wv (sp_bh (gS g) (gW g) h c9)) - sp_fi g h (sp_bh (gS g) (gW g) h c9)
/-- whether one of the first clips is possible, and the greatest worth of those -/
def mz_am (g wv : Nat → Int) (h : Nat) : Nat → Bool × Int
  | 0 => (false, 0)
  | i + 1 => if sp_cc h (mz_at (gS g) (gR g) i) = h then mz_am g wv h i else if (mz_am g wv h i).1 = false ∨ (mz_am g wv h i).2 < mz_T g wv h (mz_at (gS g) (gR g) i) then (true, mz_T g wv h (mz_at (gS g) (gR g) i)) else (true, (mz_am g wv h i).2)
theorem mz_am_no {g wv : Nat → Int} {h i : Nat} (e : sp_cc h (mz_at (gS g) (gR g) i) = h) : mz_am g wv h (i + 1) = mz_am g wv h i := by rw [mz_am, if_pos e]
theorem mz_am_t {g wv : Nat → Int} {h i : Nat} (e : ¬ sp_cc h (mz_at (gS g) (gR g) i) = h) (q : (mz_am g wv h i).1 = false ∨ (mz_am g wv h i).2 < mz_T g wv h (mz_at (gS g) (gR g) i)) : mz_am g wv h (i + 1) = (true, mz_T g wv h (mz_at (gS g) (gR g) i)) := by rw [mz_am, if_neg e, if_pos q]
theorem mz_am_k {g wv : Nat → Int} {h i : Nat} (e : ¬ sp_cc h (mz_at (gS g) (gR g) i) = h) (q : ¬ ((mz_am g wv h i).1 = false ∨ (mz_am g wv h i).2 < mz_T g wv h (mz_at (gS g) (gR g) i))) : mz_am g wv h (i + 1) = (true, (mz_am g wv h i).2) := by rw [mz_am, if_neg e, if_neg q]
theorem mz_mul9 {y a b : Int} (h : 1 ≤ y ∧ y ≤ 9) : (y * a < y * b ↔ a < b) ∧ (y * a = y * b ↔ a = b) := by
  rcases (show y = 1 ∨ y = 2 ∨ y = 3 ∨ y = 4 ∨ y = 5 ∨ y = 6 ∨ y = 7 ∨ y = 8 ∨ y = 9 by omega) with rfl | rfl | rfl | rfl | rfl | rfl | rfl | rfl | rfl <;> omega
theorem mz_mulr {y a : Int} (h : 1 ≤ y ∧ y ≤ 9) (ha : -100 ≤ a ∧ a ≤ 100) : -900 ≤ y * a ∧ y * a ≤ 900 := by
  rcases (show y = 1 ∨ y = 2 ∨ y = 3 ∨ y = 4 ∨ y = 5 ∨ y = 6 ∨ y = 7 ∨ y = 8 ∨ y = 9 by omega) with rfl | rfl | rfl | rfl | rfl | rfl | rfl | rfl | rfl <;> omega
/-- below a hedge the table is laid -/
def mz_wb (g wv : Nat → Int) (h : Nat) : Prop := ∀ b, b < h → wv b = g 4 * ox_wo g b
theorem mz_T_eq {g wv : Nat → Int} {h c9 : Nat} (hw : mz_wb g wv h) (e : ¬ sp_cc h c9 = h) : mz_T g wv h c9 = g 4 * wo_gain (gS g) (gW g) (wo (gS g) (gW g) (gR g)) h c9 := by
  unfold mz_T wo_gain
  rw [if_neg e, hw _ (sp_bh_lt e)]
  unfold sp_fi ox_wo
  simp only [Int.mul_sub, Int.mul_neg]
theorem mz_T_ran {g wv : Nat → Int} (hg : WF g) {h c9 : Nat} (hh : h < 4 ^ gS g) (hw : mz_wb g wv h) (e : ¬ sp_cc h c9 = h) : -900 ≤ mz_T g wv h c9 ∧ mz_T g wv h c9 ≤ 900 := by
  rw [mz_T_eq hw e]
  have := wo_gran (c := c9) (w := gW g) hg.S hg.R hh
  exact mz_mulr hg.2.2.2.2.1 (by omega)
theorem mz_am_is {g wv : Nat → Int} (hg : WF g) {h : Nat} (hh : h < 4 ^ gS g) (hw : mz_wb g wv h) : ∀ i, i ≤ (wo_cls (gS g) (gR g)).length → ((mz_am g wv h i).1 = false ∧ (mz_am g wv h i).2 = 0 ∧ wo_fold (gS g) (gW g) (wo (gS g) (gW g) (gR g)) h ((wo_cls (gS g) (gR g)).take i) (-100) = -100) ∨ ((mz_am g wv h i).1 = true ∧ (mz_am g wv h i).2 = g 4 * wo_fold (gS g) (gW g) (wo (gS g) (gW g) (gR g)) h ((wo_cls (gS g) (gR g)).take i) (-100))
  | 0, _ => Or.inl ⟨rfl, rfl, rfl⟩
  | i + 1, hi => by
    have ih := mz_am_is hg hh hw i (by omega)
    have e1 : mz_at (gS g) (gR g) i = (wo_cls (gS g) (gR g)).getD i 0 := by
      unfold mz_at
      rw [List.getD_eq_getElem?_getD, List.getD_eq_getElem?_getD, List.getElem?_eq_getElem (by omega)]
      rfl
    rw [wo_step (by omega), ← e1]
    have hge := (wo_fold_le (S := gS g) (w := gW g) (h := h) (f := wo (gS g) (gW g) (gR g)) ((wo_cls (gS g) (gR g)).take i) (-100)).1
    have hgr := wo_gran (c := mz_at (gS g) (gR g) i) (w := gW g) hg.S hg.R hh
    by_cases e : sp_cc h (mz_at (gS g) (gR g) i) = h
    · rw [mz_am_no e]
      have e3 : wo_gain (gS g) (gW g) (wo (gS g) (gW g) (gR g)) h (mz_at (gS g) (gR g) i) = -100 := if_pos e
      rw [e3, Int.max_eq_left hge]
      exact ih
    · have hT := mz_T_eq hw e
      rcases ih with ⟨i1, i2, i3⟩ | ⟨i1, i2⟩
      · rw [mz_am_t e (Or.inl i1), i3, hT, Int.max_eq_right hgr.1]
        exact Or.inr ⟨rfl, rfl⟩
      · by_cases q : (mz_am g wv h i).2 < mz_T g wv h (mz_at (gS g) (gR g) i)
        · rw [mz_am_t e (Or.inr q)]
          rw [i2, hT, (mz_mul9 hg.2.2.2.2.1).1] at q
          rw [hT, Int.max_eq_right (by omega)]
          exact Or.inr ⟨rfl, rfl⟩
        · rw [mz_am_k e (by rw [i1]; exact fun z => z.elim (fun z => Bool.noConfusion z) q)]
          rw [i2, hT, (mz_mul9 hg.2.2.2.2.1).1] at q
          rw [i2, Int.max_eq_left (by omega)]
          exact Or.inr ⟨rfl, rfl⟩
theorem mz_am_ran {g wv : Nat → Int} (hg : WF g) {h : Nat} (hh : h < 4 ^ gS g) (hw : mz_wb g wv h) (i : Nat) (hi : i ≤ (wo_cls (gS g) (gR g)).length) : -900 ≤ (mz_am g wv h i).2 ∧ (mz_am g wv h i).2 ≤ 900 := by
  rcases mz_am_is hg hh hw i hi with ⟨-, e, -⟩ | ⟨-, e⟩
  · omega
  · rw [e]
    have := wo_fran (w := gW g) hg.S hg.R hh ((wo_cls (gS g) (gR g)).take i)
    exact mz_mulr hg.2.2.2.2.1 (by omega)
theorem mz_am_end {g wv : Nat → Int} (hg : WF g) {h : Nat} (h0 : 0 < h) (hh : h < 4 ^ gS g) (hw : mz_wb g wv h) : (mz_am g wv h (wo_cls (gS g) (gR g)).length).2 = g 4 * ox_wo g h := by
  have e := wo_eq (S := gS g) (w := gW g) (r := gR g) h0
  have h6 := wo_6 (w := gW g) hg.S hg.R hh
  rcases mz_am_is hg hh hw _ (Nat.le_refl _) with ⟨-, -, e2⟩ | ⟨-, e2⟩
  · rw [List.take_length] at e2
    omega
  · rw [e2, List.take_length, ← e]
    rfl
theorem mz_wb_up {g wv : Nat → Int} {h : Nat} {z : Int} (hw : mz_wb g wv h) (e : z = g 4 * ox_wo g h) : mz_wb g (sp_set wv h z) (h + 1) := by
  intro b hb
  unfold sp_set
  by_cases q : b = h
  · rw [if_pos q, q, e]
  · rw [if_neg q]
    exact hw b (by omega)
theorem mz_wb_1 (g wv : Nat → Int) : mz_wb g (sp_set wv 0 0) 1 := by
  intro b hb
  obtain rfl : b = 0 := by omega
  show (0 : Int) = g 4 * wo _ _ _ 0
  rw [wo_0, Int.mul_zero]
theorem mz_at_len {S r i : Nat} (hS : 2 ≤ S ∧ S ≤ 6) (hr : 1 ≤ r ∧ r ≤ 3) (h : 1000 ≤ mz_at S r i) : (wo_cls S r).length ≤ i := by
  rcases Nat.lt_or_ge i (wo_cls S r).length with q | q
  · have := (mz_at_n hS hr q).2
    omega
  · exact q
theorem mz_at_le {S r i : Nat} (hS : 2 ≤ S ∧ S ≤ 6) (hr : 1 ≤ r ∧ r ≤ 3) (hi : i ≤ (wo_cls S r).length) : mz_at S r i ≤ 1000 := by
  rcases Nat.lt_or_ge i (wo_cls S r).length with q | q
  · have := (mz_at_n hS hr q).2
    omega
  · rw [mz_at_out q]
    exact Nat.le_refl _

set_option maxHeartbeats 4000000 in
set_option maxRecDepth 100000 in
theorem k_X9_layWorths (l : Launch) (D : va_G) (dA : Nat → ClassId) (m9 xt nw tr di ke ik wt : Nat) (rf sz ac ld sp ou : Int) (r9 : Nat) (g : Nat → Int) (hg : WF g) (wv : Nat → Int) (hl : mz_LW ld wv) : hv_Ct l yX9_layWorths (hw_W yX9_layWorths cX9_layWorths 9 none) 5 D dA [.ref m9, .ref r9] ([(m9, .inr (7, [.int (zI (rf)), .ref xt, .int (zI (sz)), .ref nw, .ref tr, .ref di, .int (zI (ac)), .ref ke, .ref ik, .ref wt, .int (zI (ld)), .int (zI (sp)), .int (zI (ou))])), (r9, .inl (dA 0, 12, .inl (fun i => zI (g i)))), (wt, .inl (dA 0, 4096, .inl (fun i => zI (wv i))))]) 0 0 (S := Nat → Int) (fun _ => none) (fun u => mz_ws g u) (fun u => [(m9, .inr (7, [.int (zI (rf)), .ref xt, .int (zI (sz)), .ref nw, .ref tr, .ref di, .int (zI (ac)), .ref ke, .ref ik, .ref wt, .int (zI (mz_key g)), .int (zI (sp)), .int (zI (ou))])), (r9, .inl (dA 0, 12, .inl (fun i => zI (g i)))), (wt, .inl (dA 0, 4096, .inl (fun i => zI (u i))))]) := by
  have hlr := mz_LW_ran hl
  have hkr := mz_key_ran hg
  have hg0 := hg.1
  have hg2 := hg.2.2.1
  have hg4 := hg.2.2.2.2.1
  have hg5 := hg.2.2.2.2.2
  have hSS := hg.S
  have h46 := sp_4S hg.S.2
  have h4p : 0 < 4 ^ gS g := Nat.pow_pos (by decide)
  refine hv_of (cc := cX9_layWorths) (maxL := 9) (ret := none) (own := RX9) rfl (by decide) rfl (Nat.le_of_ble_eq_true rfl) ?_
  intro p e s m args below meth c C M
  refine hv_lveq (lv' := [(0, .ref m9), (1, .ref r9)]) rfl ?_
  refine hv_aload_n C dX9_layWorths_0 1 rfl ?_
  refine hv_iconst C dX9_layWorths_1 (v := zI (0)) rfl ?_
  refine hv_iald C dX9_layWorths_2 1 rfl (0) (rfl) (by omega) (by omega) (v := (zI (g 0))) rfl ?_
  refine hv_bipush C dX9_layWorths_3 (v := zI (10)) (by decide +kernel) ?_
  refine hv_aload_n C dX9_layWorths_5 1 rfl ?_
  refine hv_iconst C dX9_layWorths_6 (v := zI (2)) rfl ?_
  refine hv_iald C dX9_layWorths_7 1 rfl (2) (rfl) (by omega) (by omega) (v := (zI (g 2))) rfl ?_
  refine hv_imul C dX9_layWorths_8 (zI_mul _ _) ?_
  refine hv_iadd C dX9_layWorths_9 (zI_add _ _) ?_
  refine hv_bipush C dX9_layWorths_10 (v := zI (100)) (by decide +kernel) ?_
  refine hv_aload_n C dX9_layWorths_12 1 rfl ?_
  refine hv_iconst C dX9_layWorths_13 (v := zI (4)) rfl ?_
  refine hv_iald C dX9_layWorths_14 1 rfl (4) (rfl) (by omega) (by omega) (v := (zI (g 4))) rfl ?_
  refine hv_imul C dX9_layWorths_15 (zI_mul _ _) ?_
  refine hv_iadd C dX9_layWorths_16 (zI_add _ _) ?_
  refine hv_sipush C dX9_layWorths_17 (v := zI (1000)) (by decide +kernel) ?_
  refine hv_aload_n C dX9_layWorths_20 1 rfl ?_
  refine hv_iconst C dX9_layWorths_21 (v := zI (5)) rfl ?_
  refine hv_iald C dX9_layWorths_22 1 rfl (5) (rfl) (by omega) (by omega) (v := (zI (g 5))) rfl ?_
  refine hv_imul C dX9_layWorths_23 (zI_mul _ _) ?_
  refine hv_iadd C dX9_layWorths_24 (zI_add _ _) ?_
  refine hv_topi (y := zI (mz_key g)) (by exact zI_c (by unfold mz_key; omega)) ?_
  refine hv_istore_n C dX9_layWorths_25 (lw := [(2, .int (zI (mz_key g))), (0, .ref m9), (1, .ref r9)]) (by decide) rfl ?_
  refine hv_iload_n C dX9_layWorths_26 0 rfl ?_
  refine hv_aload_n C dX9_layWorths_27 1 rfl ?_
  refine hv_get C dX9_layWorths_28 (fun w h => hw_c (tw_u_9 w h)) 0 (ci := 7) rfl rfl 10 (by decide) (hw_c tw_f_RX9_32) rfl ?_
  refine hv_icmp_ne C dX9_layWorths_31 (tgt := 35) (by decide) (zI_ne (by omega)) (fun hc31 => ?_) (fun hc31 => ?_)
  · refine hv_aload_n C dX9_layWorths_35 1 rfl ?_
    refine hv_iload_n C dX9_layWorths_36 0 rfl ?_
    refine hv_put C dX9_layWorths_37 (fun w h => hw_c (tw_u_9 w h)) tyX9 tyX9_ok nmX9 0 (ci := 7) (ty := .int) rfl rfl 10 (by decide) (hw_c tw_f_RX9_32) rfl rfl rfl rfl (Nat.le_of_ble_eq_true rfl) ?_
    refine hv_weq (ws' := [(m9, .inr (7, [.int (zI (rf)), .ref xt, .int (zI (sz)), .ref nw, .ref tr, .ref di, .int (zI (ac)), .ref ke, .ref ik, .ref wt, .int (zI (mz_key g)), .int (zI (sp)), .int (zI (ou))])), (r9, .inl (dA 0, 12, .inl (fun i => zI (g i)))), (wt, .inl (dA 0, 4096, .inl (fun i => zI (wv i))))]) rfl ?_
    refine hv_aload_n C dX9_layWorths_40 1 rfl ?_
    refine hv_get C dX9_layWorths_41 (fun w h => hw_c (tw_u_9 w h)) 0 (ci := 7) rfl rfl 9 (by decide) (hw_c tw_f_RX9_29) rfl ?_
    refine hv_iconst C dX9_layWorths_44 (v := zI (0)) rfl ?_
    refine hv_iconst C dX9_layWorths_45 (v := zI (0)) rfl ?_
    refine hv_iast C dX9_layWorths_46 2 rfl (0) (rfl) (by omega) (by omega) ?_
    refine hv_weq (ws' := [(m9, .inr (7, [.int (zI (rf)), .ref xt, .int (zI (sz)), .ref nw, .ref tr, .ref di, .int (zI (ac)), .ref ke, .ref ik, .ref wt, .int (zI (mz_key g)), .int (zI (sp)), .int (zI (ou))])), (r9, .inl (dA 0, 12, .inl (fun i => zI (g i)))), (wt, .inl (dA 0, 4096, .inl (fun i => zI (sp_set wv 0 0 i))))]) (by rw [sp_upd]; rfl) ?_
    refine hv_aload_n C dX9_layWorths_47 2 rfl ?_
    refine hv_iconst C dX9_layWorths_48 (v := zI (0)) rfl ?_
    refine hv_iald C dX9_layWorths_49 1 rfl (0) (rfl) (by omega) (by omega) (v := (zI (g 0))) rfl ?_
    refine hv_callS (As := [.int (zI (g 0))]) (rest := []) (wc := []) (wr := [(m9, .inr (7, [.int (zI (rf)), .ref xt, .int (zI (sz)), .ref nw, .ref tr, .ref di, .int (zI (ac)), .ref ke, .ref ik, .ref wt, .int (zI (mz_key g)), .int (zI (sp)), .int (zI (ou))])), (r9, .inl (dA 0, 12, .inl (fun i => zI (g i)))), (wt, .inl (dA 0, 4096, .inl (fun i => zI (sp_set wv 0 0 i))))]) C (k_X9_all l D dA (gS g) hg.e0 (by omega)) (va_cwS 1 C.1.2.2.2.2 (hw_S tw_m_RX9_84 tw_t_X9_all tw_n_RX9 tw_k_X9_all) rfl rfl rfl (by decide +kernel) ⟨Nat.le_of_ble_eq_true rfl, Nat.le_of_ble_eq_true rfl⟩) (hv_pm [] rfl) rfl rfl (Nat.le_of_ble_eq_true rfl) dX9_layWorths_50 ⟨Nat.le_of_ble_eq_true rfl, Nat.le_of_ble_eq_true rfl⟩ (fun _ _ => ?_)
    refine hv_eqst (st' := [.int (zI (((4 ^ gS g : Nat) : Int)))]) rfl ?_
    refine hv_weq (ws' := [(m9, .inr (7, [.int (zI (rf)), .ref xt, .int (zI (sz)), .ref nw, .ref tr, .ref di, .int (zI (ac)), .ref ke, .ref ik, .ref wt, .int (zI (mz_key g)), .int (zI (sp)), .int (zI (ou))])), (r9, .inl (dA 0, 12, .inl (fun i => zI (g i)))), (wt, .inl (dA 0, 4096, .inl (fun i => zI (sp_set wv 0 0 i))))]) (rfl) ?_
    refine hv_istore_n C dX9_layWorths_53 (lw := [(3, .int (zI (((4 ^ gS g : Nat) : Int)))), (2, .int (zI (mz_key g))), (0, .ref m9), (1, .ref r9)]) (by decide) rfl ?_
    refine hv_iconst C dX9_layWorths_54 (v := zI (1)) rfl ?_
    refine hv_istore C dX9_layWorths_55 (lw := [(4, .int (zI (1))), (3, .int (zI (((4 ^ gS g : Nat) : Int)))), (2, .int (zI (mz_key g))), (0, .ref m9), (1, .ref r9)]) (by decide) rfl ?_
    refine hv_lsub [0, 1, 3, 4] (lv' := [(4, .int (zI (1))), (3, .int (zI (((4 ^ gS g : Nat) : Int)))), (0, .ref m9), (1, .ref r9)]) rfl ?_
    refine hv_loop (σ := Nat × (Nat → Int)) (fun n9 x => x.1 + n9 = 4 ^ gS g ∧ 1 ≤ x.1 ∧ mz_wb g x.2 x.1) (fun x => [(m9, .inr (7, [.int (zI (rf)), .ref xt, .int (zI (sz)), .ref nw, .ref tr, .ref di, .int (zI (ac)), .ref ke, .ref ik, .ref wt, .int (zI (mz_key g)), .int (zI (sp)), .int (zI (ou))])), (r9, .inl (dA 0, 12, .inl (fun i => zI (g i)))), (wt, .inl (dA 0, 4096, .inl (fun i => zI (x.2 i))))]) (fun x => [(4, .int (zI ((x.1 : Int)))), (3, .int (zI (((4 ^ gS g : Nat) : Int)))), (0, .ref m9), (1, .ref r9)]) (fun x => []) (fun _ => 0) (fun _ => 0) (4 ^ gS g - 1) ((1, sp_set wv 0 0)) (⟨by dsimp only; omega, Nat.le_refl _, mz_wb_1 g wv⟩) (⟨rfl, rfl, rfl, rfl, rfl⟩) (fun n9 x hI iho => ?_)
    obtain ⟨h, wv5⟩ := x
    dsimp only at hI ⊢
    obtain ⟨hi1, hi2, hwb⟩ := hI
    refine hv_iload C dX9_layWorths_57 0 rfl ?_
    refine hv_iload_n C dX9_layWorths_59 1 rfl ?_
    refine hv_icmp_ge C dX9_layWorths_60 (tgt := 153) (by decide) (zI_le (by omega)) (fun hc60 => ?_) (fun hc60 => ?_)
    · exact hv_vret C M dX9_layWorths_153 rfl wv5 (show mz_ws g wv5 from fun b hb => hwb b (by omega)) rfl [] (List.Perm.of_eq (by first | rfl | exact (List.append_nil _).symm)) (Nat.le_refl _) (Nat.le_refl _)
    · have hh : h < 4 ^ gS g := by omega
      refine hv_iconst C dX9_layWorths_63 (v := zI (0)) rfl ?_
      refine hv_istore C dX9_layWorths_64 (lw := [(5, .int (zI (0))), (4, .int (zI ((h : Int)))), (3, .int (zI (((4 ^ gS g : Nat) : Int)))), (0, .ref m9), (1, .ref r9)]) (by decide) rfl ?_
      refine hv_iconst C dX9_layWorths_66 (v := zI (0)) rfl ?_
      refine hv_istore C dX9_layWorths_67 (lw := [(6, .int (zI (0))), (5, .int (zI (0))), (4, .int (zI ((h : Int)))), (3, .int (zI (((4 ^ gS g : Nat) : Int)))), (0, .ref m9), (1, .ref r9)]) (by decide) rfl ?_
      refine hv_iconst C dX9_layWorths_69 (v := zI (1)) rfl ?_
      refine hv_istore C dX9_layWorths_70 (lw := [(7, .int (zI (1))), (6, .int (zI (0))), (5, .int (zI (0))), (4, .int (zI ((h : Int)))), (3, .int (zI (((4 ^ gS g : Nat) : Int)))), (0, .ref m9), (1, .ref r9)]) (by decide) rfl ?_
      refine hv_loop (σ := Nat) (fun n8 x => x + n8 = (wo_cls (gS g) (gR g)).length) (fun x => [(m9, .inr (7, [.int (zI (rf)), .ref xt, .int (zI (sz)), .ref nw, .ref tr, .ref di, .int (zI (ac)), .ref ke, .ref ik, .ref wt, .int (zI (mz_key g)), .int (zI (sp)), .int (zI (ou))])), (r9, .inl (dA 0, 12, .inl (fun i => zI (g i)))), (wt, .inl (dA 0, 4096, .inl (fun i => zI (wv5 i))))]) (fun x => [(7, .int (zI (((mz_at (gS g) (gR g) x) : Int)))), (6, .int (zI ((mz_am g wv5 h x).2))), (5, .int (zI (zB ((mz_am g wv5 h x).1)))), (4, .int (zI ((h : Int)))), (3, .int (zI (((4 ^ gS g : Nat) : Int)))), (0, .ref m9), (1, .ref r9)]) (fun x => []) (fun _ => 0) (fun _ => 0) ((wo_cls (gS g) (gR g)).length) (0) (Nat.zero_add _) (⟨rfl, by rw [mz_at_0 hg.S hg.R]; rfl, rfl, rfl, rfl⟩) (fun n8 x hJ ih => ?_)
      obtain ⟨i, rfl⟩ : ∃ i, i = x := ⟨x, rfl⟩
      have hatl := mz_at_le hg.S hg.R (i := i) (by omega)
      refine hv_iload C dX9_layWorths_72 0 rfl ?_
      refine hv_sipush C dX9_layWorths_74 (v := zI (1000)) (by decide +kernel) ?_
      refine hv_icmp_ge C dX9_layWorths_77 (tgt := 138) (by decide) (zI_le (by omega)) (fun hc77 => ?_) (fun hc77 => ?_)
      · have hil := mz_at_len hg.S hg.R (i := i) (by omega)
        obtain rfl : i = (wo_cls (gS g) (gR g)).length := (by omega)
        refine hv_aload_n C dX9_layWorths_138 5 rfl ?_
        refine hv_get C dX9_layWorths_139 (fun w h => hw_c (tw_u_9 w h)) 0 (ci := 7) rfl rfl 9 (by decide) (hw_c tw_f_RX9_29) rfl ?_
        refine hv_iload C dX9_layWorths_142 3 rfl ?_
        refine hv_iload C dX9_layWorths_144 1 rfl ?_
        refine hv_iast C dX9_layWorths_146 2 rfl (h) (zI_ix (by omega)) (by omega) (by omega) ?_
        refine hv_weq (ws' := [(m9, .inr (7, [.int (zI (rf)), .ref xt, .int (zI (sz)), .ref nw, .ref tr, .ref di, .int (zI (ac)), .ref ke, .ref ik, .ref wt, .int (zI (mz_key g)), .int (zI (sp)), .int (zI (ou))])), (r9, .inl (dA 0, 12, .inl (fun i => zI (g i)))), (wt, .inl (dA 0, 4096, .inl (fun i => zI (sp_set wv5 h ((mz_am g wv5 h (wo_cls (gS g) (gR g)).length).2) i))))]) (by rw [sp_upd]; rfl) ?_
        refine hv_iinc C dX9_layWorths_147 3 rfl (v := zI (((h + 1 : Nat) : Int))) ((zI_add _ _).trans (zI_c (by omega))) (by decide) (lw := [(4, .int (zI (((h + 1 : Nat) : Int)))), (7, .int (zI (((mz_at (gS g) (gR g) (wo_cls (gS g) (gR g)).length) : Int)))), (6, .int (zI ((mz_am g wv5 h (wo_cls (gS g) (gR g)).length).2))), (5, .int (zI (zB ((mz_am g wv5 h (wo_cls (gS g) (gR g)).length).1)))), (3, .int (zI (((4 ^ gS g : Nat) : Int)))), (0, .ref m9), (1, .ref r9)]) rfl ?_
        refine hv_goto C dX9_layWorths_150 (tgt := 57) (by decide) ?_
        refine hv_lsub [0, 4, 5, 6] (lv' := [(4, .int (zI (((h + 1 : Nat) : Int)))), (3, .int (zI (((4 ^ gS g : Nat) : Int)))), (0, .ref m9), (1, .ref r9)]) rfl ?_
        obtain ⟨k9, rfl⟩ : ∃ k9, n9 = k9 + 1 := ⟨n9 - 1, by omega⟩
        exact iho k9 (h + 1, sp_set wv5 h ((mz_am g wv5 h (wo_cls (gS g) (gR g)).length).2)) (by omega) ⟨by dsimp only; omega, by dsimp only; omega, mz_wb_up hwb (mz_am_end hg (by omega) hh hwb)⟩
      · have hlt9 : i < (wo_cls (gS g) (gR g)).length := Nat.lt_of_not_le (fun q => by rw [mz_at_out q] at hc77; omega)
        have hat := (mz_at_n hg.S hg.R hlt9).2
        have hnx := (mz_at_n hg.S hg.R hlt9).1
        have hmem := mz_at_in hlt9
        have hamr := mz_am_ran hg hh hwb i (by omega)
        refine hv_aload_n C dX9_layWorths_80 5 rfl ?_
        refine hv_aload_n C dX9_layWorths_81 6 rfl ?_
        refine hv_iload C dX9_layWorths_82 3 rfl ?_
        refine hv_iload C dX9_layWorths_84 0 rfl ?_
        refine hv_callV (As := [.ref r9, .int (zI ((h : Int))), .int (zI (((mz_at (gS g) (gR g) i) : Int)))]) (rest := []) (wc := [(m9, .inr (7, [.int (zI (rf)), .ref xt, .int (zI (sz)), .ref nw, .ref tr, .ref di, .int (zI (ac)), .ref ke, .ref ik, .ref wt, .int (zI (mz_key g)), .int (zI (sp)), .int (zI (ou))])), (r9, .inl (dA 0, 12, .inl (fun i => zI (g i))))]) (wr := [(wt, .inl (dA 0, 4096, .inl (fun i => zI (wv5 i))))]) C (k_X9_may l D dA xt nw tr di ke ik wt rf sz ac (mz_key g) sp ou m9 r9 g hg h rfl hh (mz_at (gS g) (gR g) i) rfl hmem) (cwV 3 C.1.2.2.2.2 (hw_V tw_m_RX9_88 tw_i_X9_may tw_s_X9_may tw_n_RX9 tw_k_X9_may) rfl rfl rfl (by decide +kernel) ⟨Nat.le_of_ble_eq_true rfl, Nat.le_of_ble_eq_true rfl⟩) (hv_pm [0, 0] rfl) rfl 0 7 rfl rfl rfl (Nat.le_of_ble_eq_true rfl) dX9_layWorths_86 ⟨Nat.le_of_ble_eq_true rfl, Nat.le_of_ble_eq_true rfl⟩ (fun _ _ => ?_)
        refine hv_eqst (st' := [.int (zI (zB (decide (¬ sp_cc h (mz_at (gS g) (gR g) i) = h))))]) rfl ?_
        refine hv_weq (ws' := [(m9, .inr (7, [.int (zI (rf)), .ref xt, .int (zI (sz)), .ref nw, .ref tr, .ref di, .int (zI (ac)), .ref ke, .ref ik, .ref wt, .int (zI (mz_key g)), .int (zI (sp)), .int (zI (ou))])), (r9, .inl (dA 0, 12, .inl (fun i => zI (g i)))), (wt, .inl (dA 0, 4096, .inl (fun i => zI (wv5 i))))]) (rfl) ?_
        refine hv_if_eq C dX9_layWorths_89 (tgt := 127) (by decide) zB_0 (fun hc89 => ?_) (fun hc89 => ?_)
        · refine hv_lveq (lv' := [(7, .int (zI (((mz_at (gS g) (gR g) i) : Int)))), (6, .int (zI ((mz_am g wv5 h (i + 1)).2))), (5, .int (zI (zB ((mz_am g wv5 h (i + 1)).1)))), (4, .int (zI ((h : Int)))), (3, .int (zI (((4 ^ gS g : Nat) : Int)))), (0, .ref m9), (1, .ref r9)]) (by first | (rw [mz_am_no (Decidable.not_not.mp hc89)]; done) | (rw [mz_am_no (Decidable.not_not.mp hc89)]; rfl)) ?_
          refine hv_aload_n C dX9_layWorths_127 6 rfl ?_
          refine hv_iload C dX9_layWorths_128 0 rfl ?_
          refine hv_callS (As := [.ref r9, .int (zI (((mz_at (gS g) (gR g) i) : Int)))]) (rest := []) (wc := [(r9, .inl (dA 0, 12, .inl (fun i => zI (g i))))]) (wr := [(m9, .inr (7, [.int (zI (rf)), .ref xt, .int (zI (sz)), .ref nw, .ref tr, .ref di, .int (zI (ac)), .ref ke, .ref ik, .ref wt, .int (zI (mz_key g)), .int (zI (sp)), .int (zI (ou))])), (wt, .inl (dA 0, 4096, .inl (fun i => zI (wv5 i))))]) C (k_X9_next l D dA r9 g hg (mz_at (gS g) (gR g) i) rfl hat) (va_cwS 2 C.1.2.2.2.2 (hw_S tw_m_RX9_95 tw_t_X9_next tw_n_RX9 tw_k_X9_next) rfl rfl rfl (by decide +kernel) ⟨Nat.le_of_ble_eq_true rfl, Nat.le_of_ble_eq_true rfl⟩) (hv_pm [1] rfl) rfl rfl (Nat.le_of_ble_eq_true rfl) dX9_layWorths_130 ⟨Nat.le_of_ble_eq_true rfl, Nat.le_of_ble_eq_true rfl⟩ (fun _ _ => ?_)
          refine hv_eqst (st' := [.int (zI ((mz_n (gS g) (gR g) (mz_at (gS g) (gR g) i) : Int)))]) rfl ?_
          refine hv_weq (ws' := [(r9, .inl (dA 0, 12, .inl (fun i => zI (g i)))), (m9, .inr (7, [.int (zI (rf)), .ref xt, .int (zI (sz)), .ref nw, .ref tr, .ref di, .int (zI (ac)), .ref ke, .ref ik, .ref wt, .int (zI (mz_key g)), .int (zI (sp)), .int (zI (ou))])), (wt, .inl (dA 0, 4096, .inl (fun i => zI (wv5 i))))]) (rfl) ?_
          refine hv_srt [1, 0, 0] (ws' := [(m9, .inr (7, [.int (zI (rf)), .ref xt, .int (zI (sz)), .ref nw, .ref tr, .ref di, .int (zI (ac)), .ref ke, .ref ik, .ref wt, .int (zI (mz_key g)), .int (zI (sp)), .int (zI (ou))])), (r9, .inl (dA 0, 12, .inl (fun i => zI (g i)))), (wt, .inl (dA 0, 4096, .inl (fun i => zI (wv5 i))))]) rfl ?_
          refine hv_topi (y := zI (((mz_at (gS g) (gR g) (i + 1)) : Nat) : Int)) (by rw [hnx]) ?_
          refine hv_istore C dX9_layWorths_133 (lw := [(7, .int (zI (((mz_at (gS g) (gR g) (i + 1)) : Int)))), (6, .int (zI ((mz_am g wv5 h (i + 1)).2))), (5, .int (zI (zB ((mz_am g wv5 h (i + 1)).1)))), (4, .int (zI ((h : Int)))), (3, .int (zI (((4 ^ gS g : Nat) : Int)))), (0, .ref m9), (1, .ref r9)]) (by decide) rfl ?_
          refine hv_goto C dX9_layWorths_135 (tgt := 72) (by decide) ?_
          refine hv_lsub [0, 1, 2, 3, 4, 5, 6] (lv' := [(7, .int (zI (((mz_at (gS g) (gR g) (i + 1)) : Int)))), (6, .int (zI ((mz_am g wv5 h (i + 1)).2))), (5, .int (zI (zB ((mz_am g wv5 h (i + 1)).1)))), (4, .int (zI ((h : Int)))), (3, .int (zI (((4 ^ gS g : Nat) : Int)))), (0, .ref m9), (1, .ref r9)]) rfl ?_
          obtain ⟨k8, rfl⟩ : ∃ k8, n8 = k8 + 1 := ⟨n8 - 1, by omega⟩
          exact ih k8 (i + 1) (by omega) (by omega)
        · have hTr := mz_T_ran hg hh hwb (Decidable.not_not.mp hc89)
          refine hv_aload_n C dX9_layWorths_92 5 rfl ?_
          refine hv_aload_n C dX9_layWorths_93 6 rfl ?_
          refine hv_iload C dX9_layWorths_94 3 rfl ?_
          refine hv_iload C dX9_layWorths_96 0 rfl ?_
          refine hv_callV (As := [.ref r9, .int (zI ((h : Int))), .int (zI (((mz_at (gS g) (gR g) i) : Int)))]) (rest := []) (wc := [(m9, .inr (7, [.int (zI (rf)), .ref xt, .int (zI (sz)), .ref nw, .ref tr, .ref di, .int (zI (ac)), .ref ke, .ref ik, .ref wt, .int (zI (mz_key g)), .int (zI (sp)), .int (zI (ou))])), (r9, .inl (dA 0, 12, .inl (fun i => zI (g i)))), (wt, .inl (dA 0, 4096, .inl (fun i => zI (wv5 i))))]) (wr := []) C (k_X9_tried l D dA xt nw tr di ke ik wt rf sz ac (mz_key g) sp ou m9 r9 g hg wv5 h rfl hh (mz_at (gS g) (gR g) i) rfl hmem) (cwV 3 C.1.2.2.2.2 (hw_V tw_m_RX9_92 tw_i_X9_tried tw_s_X9_tried tw_n_RX9 tw_k_X9_tried) rfl rfl rfl (by decide +kernel) ⟨Nat.le_of_ble_eq_true rfl, Nat.le_of_ble_eq_true rfl⟩) (hv_pm [0, 0, 0] rfl) rfl 0 7 rfl rfl rfl (Nat.le_of_ble_eq_true rfl) dX9_layWorths_98 ⟨Nat.le_of_ble_eq_true rfl, Nat.le_of_ble_eq_true rfl⟩ (fun _ _ => ?_)
          refine hv_eqst (st' := [.int (zI (mz_T g wv5 h (mz_at (gS g) (gR g) i)))]) rfl ?_
          refine hv_weq (ws' := [(m9, .inr (7, [.int (zI (rf)), .ref xt, .int (zI (sz)), .ref nw, .ref tr, .ref di, .int (zI (ac)), .ref ke, .ref ik, .ref wt, .int (zI (mz_key g)), .int (zI (sp)), .int (zI (ou))])), (r9, .inl (dA 0, 12, .inl (fun i => zI (g i)))), (wt, .inl (dA 0, 4096, .inl (fun i => zI (wv5 i))))]) (rfl) ?_
          refine hv_istore C dX9_layWorths_101 (lw := [(8, .int (zI (mz_T g wv5 h (mz_at (gS g) (gR g) i)))), (7, .int (zI (((mz_at (gS g) (gR g) i) : Int)))), (6, .int (zI ((mz_am g wv5 h i).2))), (5, .int (zI (zB ((mz_am g wv5 h i).1)))), (4, .int (zI ((h : Int)))), (3, .int (zI (((4 ^ gS g : Nat) : Int)))), (0, .ref m9), (1, .ref r9)]) (by decide) rfl ?_
          refine hv_iload C dX9_layWorths_103 3 rfl ?_
          refine hv_if_eq C dX9_layWorths_105 (tgt := 115) (by decide) zB_e (fun hc105 => ?_) (fun hc105 => ?_)
          · refine hv_iload C dX9_layWorths_115 0 rfl ?_
            refine hv_goto C dX9_layWorths_117 (tgt := 122) (by decide) ?_
            refine hv_istore C dX9_layWorths_122 (lw := [(6, .int (zI (mz_T g wv5 h (mz_at (gS g) (gR g) i)))), (8, .int (zI (mz_T g wv5 h (mz_at (gS g) (gR g) i)))), (7, .int (zI (((mz_at (gS g) (gR g) i) : Int)))), (5, .int (zI (zB ((mz_am g wv5 h i).1)))), (4, .int (zI ((h : Int)))), (3, .int (zI (((4 ^ gS g : Nat) : Int)))), (0, .ref m9), (1, .ref r9)]) (by decide) rfl ?_
            refine hv_iconst C dX9_layWorths_124 (v := zI (1)) rfl ?_
            refine hv_istore C dX9_layWorths_125 (lw := [(5, .int (zI (1))), (6, .int (zI (mz_T g wv5 h (mz_at (gS g) (gR g) i)))), (8, .int (zI (mz_T g wv5 h (mz_at (gS g) (gR g) i)))), (7, .int (zI (((mz_at (gS g) (gR g) i) : Int)))), (4, .int (zI ((h : Int)))), (3, .int (zI (((4 ^ gS g : Nat) : Int)))), (0, .ref m9), (1, .ref r9)]) (by decide) rfl ?_
            refine hv_lveq (lv' := [(5, .int (zI (zB ((mz_am g wv5 h (i + 1)).1)))), (6, .int (zI ((mz_am g wv5 h (i + 1)).2))), (8, .int (zI (mz_T g wv5 h (mz_at (gS g) (gR g) i)))), (7, .int (zI (((mz_at (gS g) (gR g) i) : Int)))), (4, .int (zI ((h : Int)))), (3, .int (zI (((4 ^ gS g : Nat) : Int)))), (0, .ref m9), (1, .ref r9)]) (by first | (rw [mz_am_t (Decidable.not_not.mp hc89) (by first | exact Or.inl (Bool.eq_false_iff.mpr hc105) | exact Or.inr (by omega))]; done) | (rw [mz_am_t (Decidable.not_not.mp hc89) (by first | exact Or.inl (Bool.eq_false_iff.mpr hc105) | exact Or.inr (by omega))]; rfl)) ?_
            refine hv_aload_n C dX9_layWorths_127 7 rfl ?_
            refine hv_iload C dX9_layWorths_128 3 rfl ?_
            refine hv_callS (As := [.ref r9, .int (zI (((mz_at (gS g) (gR g) i) : Int)))]) (rest := []) (wc := [(r9, .inl (dA 0, 12, .inl (fun i => zI (g i))))]) (wr := [(m9, .inr (7, [.int (zI (rf)), .ref xt, .int (zI (sz)), .ref nw, .ref tr, .ref di, .int (zI (ac)), .ref ke, .ref ik, .ref wt, .int (zI (mz_key g)), .int (zI (sp)), .int (zI (ou))])), (wt, .inl (dA 0, 4096, .inl (fun i => zI (wv5 i))))]) C (k_X9_next l D dA r9 g hg (mz_at (gS g) (gR g) i) rfl hat) (va_cwS 2 C.1.2.2.2.2 (hw_S tw_m_RX9_95 tw_t_X9_next tw_n_RX9 tw_k_X9_next) rfl rfl rfl (by decide +kernel) ⟨Nat.le_of_ble_eq_true rfl, Nat.le_of_ble_eq_true rfl⟩) (hv_pm [1] rfl) rfl rfl (Nat.le_of_ble_eq_true rfl) dX9_layWorths_130 ⟨Nat.le_of_ble_eq_true rfl, Nat.le_of_ble_eq_true rfl⟩ (fun _ _ => ?_)
            refine hv_eqst (st' := [.int (zI ((mz_n (gS g) (gR g) (mz_at (gS g) (gR g) i) : Int)))]) rfl ?_
            refine hv_weq (ws' := [(r9, .inl (dA 0, 12, .inl (fun i => zI (g i)))), (m9, .inr (7, [.int (zI (rf)), .ref xt, .int (zI (sz)), .ref nw, .ref tr, .ref di, .int (zI (ac)), .ref ke, .ref ik, .ref wt, .int (zI (mz_key g)), .int (zI (sp)), .int (zI (ou))])), (wt, .inl (dA 0, 4096, .inl (fun i => zI (wv5 i))))]) (rfl) ?_
            refine hv_srt [1, 0, 0] (ws' := [(m9, .inr (7, [.int (zI (rf)), .ref xt, .int (zI (sz)), .ref nw, .ref tr, .ref di, .int (zI (ac)), .ref ke, .ref ik, .ref wt, .int (zI (mz_key g)), .int (zI (sp)), .int (zI (ou))])), (r9, .inl (dA 0, 12, .inl (fun i => zI (g i)))), (wt, .inl (dA 0, 4096, .inl (fun i => zI (wv5 i))))]) rfl ?_
            refine hv_topi (y := zI (((mz_at (gS g) (gR g) (i + 1)) : Nat) : Int)) (by rw [hnx]) ?_
            refine hv_istore C dX9_layWorths_133 (lw := [(7, .int (zI (((mz_at (gS g) (gR g) (i + 1)) : Int)))), (5, .int (zI (zB ((mz_am g wv5 h (i + 1)).1)))), (6, .int (zI ((mz_am g wv5 h (i + 1)).2))), (8, .int (zI (mz_T g wv5 h (mz_at (gS g) (gR g) i)))), (4, .int (zI ((h : Int)))), (3, .int (zI (((4 ^ gS g : Nat) : Int)))), (0, .ref m9), (1, .ref r9)]) (by decide) rfl ?_
            refine hv_goto C dX9_layWorths_135 (tgt := 72) (by decide) ?_
            refine hv_lsub [0, 2, 1, 4, 5, 6, 7] (lv' := [(7, .int (zI (((mz_at (gS g) (gR g) (i + 1)) : Int)))), (6, .int (zI ((mz_am g wv5 h (i + 1)).2))), (5, .int (zI (zB ((mz_am g wv5 h (i + 1)).1)))), (4, .int (zI ((h : Int)))), (3, .int (zI (((4 ^ gS g : Nat) : Int)))), (0, .ref m9), (1, .ref r9)]) rfl ?_
            obtain ⟨k8, rfl⟩ : ∃ k8, n8 = k8 + 1 := ⟨n8 - 1, by omega⟩
            exact ih k8 (i + 1) (by omega) (by omega)
          · refine hv_iload C dX9_layWorths_108 0 rfl ?_
            refine hv_iload C dX9_layWorths_110 2 rfl ?_
            refine hv_icmp_le C dX9_layWorths_112 (tgt := 120) (by decide) (zI_le (by omega)) (fun hc112 => ?_) (fun hc112 => ?_)
            · refine hv_iload C dX9_layWorths_120 2 rfl ?_
              refine hv_istore C dX9_layWorths_122 (lw := [(6, .int (zI ((mz_am g wv5 h i).2))), (8, .int (zI (mz_T g wv5 h (mz_at (gS g) (gR g) i)))), (7, .int (zI (((mz_at (gS g) (gR g) i) : Int)))), (5, .int (zI (zB ((mz_am g wv5 h i).1)))), (4, .int (zI ((h : Int)))), (3, .int (zI (((4 ^ gS g : Nat) : Int)))), (0, .ref m9), (1, .ref r9)]) (by decide) rfl ?_
              refine hv_iconst C dX9_layWorths_124 (v := zI (1)) rfl ?_
              refine hv_istore C dX9_layWorths_125 (lw := [(5, .int (zI (1))), (6, .int (zI ((mz_am g wv5 h i).2))), (8, .int (zI (mz_T g wv5 h (mz_at (gS g) (gR g) i)))), (7, .int (zI (((mz_at (gS g) (gR g) i) : Int)))), (4, .int (zI ((h : Int)))), (3, .int (zI (((4 ^ gS g : Nat) : Int)))), (0, .ref m9), (1, .ref r9)]) (by decide) rfl ?_
              refine hv_lveq (lv' := [(5, .int (zI (zB ((mz_am g wv5 h (i + 1)).1)))), (6, .int (zI ((mz_am g wv5 h (i + 1)).2))), (8, .int (zI (mz_T g wv5 h (mz_at (gS g) (gR g) i)))), (7, .int (zI (((mz_at (gS g) (gR g) i) : Int)))), (4, .int (zI ((h : Int)))), (3, .int (zI (((4 ^ gS g : Nat) : Int)))), (0, .ref m9), (1, .ref r9)]) (by first | (rw [mz_am_k (Decidable.not_not.mp hc89) (fun q => q.elim (fun q => hc105 (by rw [q]; exact Bool.false_ne_true)) (fun q => by omega))]; done) | (rw [mz_am_k (Decidable.not_not.mp hc89) (fun q => q.elim (fun q => hc105 (by rw [q]; exact Bool.false_ne_true)) (fun q => by omega))]; rfl)) ?_
              refine hv_aload_n C dX9_layWorths_127 7 rfl ?_
              refine hv_iload C dX9_layWorths_128 3 rfl ?_
              refine hv_callS (As := [.ref r9, .int (zI (((mz_at (gS g) (gR g) i) : Int)))]) (rest := []) (wc := [(r9, .inl (dA 0, 12, .inl (fun i => zI (g i))))]) (wr := [(m9, .inr (7, [.int (zI (rf)), .ref xt, .int (zI (sz)), .ref nw, .ref tr, .ref di, .int (zI (ac)), .ref ke, .ref ik, .ref wt, .int (zI (mz_key g)), .int (zI (sp)), .int (zI (ou))])), (wt, .inl (dA 0, 4096, .inl (fun i => zI (wv5 i))))]) C (k_X9_next l D dA r9 g hg (mz_at (gS g) (gR g) i) rfl hat) (va_cwS 2 C.1.2.2.2.2 (hw_S tw_m_RX9_95 tw_t_X9_next tw_n_RX9 tw_k_X9_next) rfl rfl rfl (by decide +kernel) ⟨Nat.le_of_ble_eq_true rfl, Nat.le_of_ble_eq_true rfl⟩) (hv_pm [1] rfl) rfl rfl (Nat.le_of_ble_eq_true rfl) dX9_layWorths_130 ⟨Nat.le_of_ble_eq_true rfl, Nat.le_of_ble_eq_true rfl⟩ (fun _ _ => ?_)
              refine hv_eqst (st' := [.int (zI ((mz_n (gS g) (gR g) (mz_at (gS g) (gR g) i) : Int)))]) rfl ?_
              refine hv_weq (ws' := [(r9, .inl (dA 0, 12, .inl (fun i => zI (g i)))), (m9, .inr (7, [.int (zI (rf)), .ref xt, .int (zI (sz)), .ref nw, .ref tr, .ref di, .int (zI (ac)), .ref ke, .ref ik, .ref wt, .int (zI (mz_key g)), .int (zI (sp)), .int (zI (ou))])), (wt, .inl (dA 0, 4096, .inl (fun i => zI (wv5 i))))]) (rfl) ?_
              refine hv_srt [1, 0, 0] (ws' := [(m9, .inr (7, [.int (zI (rf)), .ref xt, .int (zI (sz)), .ref nw, .ref tr, .ref di, .int (zI (ac)), .ref ke, .ref ik, .ref wt, .int (zI (mz_key g)), .int (zI (sp)), .int (zI (ou))])), (r9, .inl (dA 0, 12, .inl (fun i => zI (g i)))), (wt, .inl (dA 0, 4096, .inl (fun i => zI (wv5 i))))]) rfl ?_
              refine hv_topi (y := zI (((mz_at (gS g) (gR g) (i + 1)) : Nat) : Int)) (by rw [hnx]) ?_
              refine hv_istore C dX9_layWorths_133 (lw := [(7, .int (zI (((mz_at (gS g) (gR g) (i + 1)) : Int)))), (5, .int (zI (zB ((mz_am g wv5 h (i + 1)).1)))), (6, .int (zI ((mz_am g wv5 h (i + 1)).2))), (8, .int (zI (mz_T g wv5 h (mz_at (gS g) (gR g) i)))), (4, .int (zI ((h : Int)))), (3, .int (zI (((4 ^ gS g : Nat) : Int)))), (0, .ref m9), (1, .ref r9)]) (by decide) rfl ?_
              refine hv_goto C dX9_layWorths_135 (tgt := 72) (by decide) ?_
              refine hv_lsub [0, 2, 1, 4, 5, 6, 7] (lv' := [(7, .int (zI (((mz_at (gS g) (gR g) (i + 1)) : Int)))), (6, .int (zI ((mz_am g wv5 h (i + 1)).2))), (5, .int (zI (zB ((mz_am g wv5 h (i + 1)).1)))), (4, .int (zI ((h : Int)))), (3, .int (zI (((4 ^ gS g : Nat) : Int)))), (0, .ref m9), (1, .ref r9)]) rfl ?_
              obtain ⟨k8, rfl⟩ : ∃ k8, n8 = k8 + 1 := ⟨n8 - 1, by omega⟩
              exact ih k8 (i + 1) (by omega) (by omega)
            · refine hv_iload C dX9_layWorths_115 0 rfl ?_
              refine hv_goto C dX9_layWorths_117 (tgt := 122) (by decide) ?_
              refine hv_istore C dX9_layWorths_122 (lw := [(6, .int (zI (mz_T g wv5 h (mz_at (gS g) (gR g) i)))), (8, .int (zI (mz_T g wv5 h (mz_at (gS g) (gR g) i)))), (7, .int (zI (((mz_at (gS g) (gR g) i) : Int)))), (5, .int (zI (zB ((mz_am g wv5 h i).1)))), (4, .int (zI ((h : Int)))), (3, .int (zI (((4 ^ gS g : Nat) : Int)))), (0, .ref m9), (1, .ref r9)]) (by decide) rfl ?_
              refine hv_iconst C dX9_layWorths_124 (v := zI (1)) rfl ?_
              refine hv_istore C dX9_layWorths_125 (lw := [(5, .int (zI (1))), (6, .int (zI (mz_T g wv5 h (mz_at (gS g) (gR g) i)))), (8, .int (zI (mz_T g wv5 h (mz_at (gS g) (gR g) i)))), (7, .int (zI (((mz_at (gS g) (gR g) i) : Int)))), (4, .int (zI ((h : Int)))), (3, .int (zI (((4 ^ gS g : Nat) : Int)))), (0, .ref m9), (1, .ref r9)]) (by decide) rfl ?_
              refine hv_lveq (lv' := [(5, .int (zI (zB ((mz_am g wv5 h (i + 1)).1)))), (6, .int (zI ((mz_am g wv5 h (i + 1)).2))), (8, .int (zI (mz_T g wv5 h (mz_at (gS g) (gR g) i)))), (7, .int (zI (((mz_at (gS g) (gR g) i) : Int)))), (4, .int (zI ((h : Int)))), (3, .int (zI (((4 ^ gS g : Nat) : Int)))), (0, .ref m9), (1, .ref r9)]) (by first | (rw [mz_am_t (Decidable.not_not.mp hc89) (by first | exact Or.inl (Bool.eq_false_iff.mpr hc105) | exact Or.inr (by omega))]; done) | (rw [mz_am_t (Decidable.not_not.mp hc89) (by first | exact Or.inl (Bool.eq_false_iff.mpr hc105) | exact Or.inr (by omega))]; rfl)) ?_
              refine hv_aload_n C dX9_layWorths_127 7 rfl ?_
              refine hv_iload C dX9_layWorths_128 3 rfl ?_
              refine hv_callS (As := [.ref r9, .int (zI (((mz_at (gS g) (gR g) i) : Int)))]) (rest := []) (wc := [(r9, .inl (dA 0, 12, .inl (fun i => zI (g i))))]) (wr := [(m9, .inr (7, [.int (zI (rf)), .ref xt, .int (zI (sz)), .ref nw, .ref tr, .ref di, .int (zI (ac)), .ref ke, .ref ik, .ref wt, .int (zI (mz_key g)), .int (zI (sp)), .int (zI (ou))])), (wt, .inl (dA 0, 4096, .inl (fun i => zI (wv5 i))))]) C (k_X9_next l D dA r9 g hg (mz_at (gS g) (gR g) i) rfl hat) (va_cwS 2 C.1.2.2.2.2 (hw_S tw_m_RX9_95 tw_t_X9_next tw_n_RX9 tw_k_X9_next) rfl rfl rfl (by decide +kernel) ⟨Nat.le_of_ble_eq_true rfl, Nat.le_of_ble_eq_true rfl⟩) (hv_pm [1] rfl) rfl rfl (Nat.le_of_ble_eq_true rfl) dX9_layWorths_130 ⟨Nat.le_of_ble_eq_true rfl, Nat.le_of_ble_eq_true rfl⟩ (fun _ _ => ?_)
              refine hv_eqst (st' := [.int (zI ((mz_n (gS g) (gR g) (mz_at (gS g) (gR g) i) : Int)))]) rfl ?_
              refine hv_weq (ws' := [(r9, .inl (dA 0, 12, .inl (fun i => zI (g i)))), (m9, .inr (7, [.int (zI (rf)), .ref xt, .int (zI (sz)), .ref nw, .ref tr, .ref di, .int (zI (ac)), .ref ke, .ref ik, .ref wt, .int (zI (mz_key g)), .int (zI (sp)), .int (zI (ou))])), (wt, .inl (dA 0, 4096, .inl (fun i => zI (wv5 i))))]) (rfl) ?_
              refine hv_srt [1, 0, 0] (ws' := [(m9, .inr (7, [.int (zI (rf)), .ref xt, .int (zI (sz)), .ref nw, .ref tr, .ref di, .int (zI (ac)), .ref ke, .ref ik, .ref wt, .int (zI (mz_key g)), .int (zI (sp)), .int (zI (ou))])), (r9, .inl (dA 0, 12, .inl (fun i => zI (g i)))), (wt, .inl (dA 0, 4096, .inl (fun i => zI (wv5 i))))]) rfl ?_
              refine hv_topi (y := zI (((mz_at (gS g) (gR g) (i + 1)) : Nat) : Int)) (by rw [hnx]) ?_
              refine hv_istore C dX9_layWorths_133 (lw := [(7, .int (zI (((mz_at (gS g) (gR g) (i + 1)) : Int)))), (5, .int (zI (zB ((mz_am g wv5 h (i + 1)).1)))), (6, .int (zI ((mz_am g wv5 h (i + 1)).2))), (8, .int (zI (mz_T g wv5 h (mz_at (gS g) (gR g) i)))), (4, .int (zI ((h : Int)))), (3, .int (zI (((4 ^ gS g : Nat) : Int)))), (0, .ref m9), (1, .ref r9)]) (by decide) rfl ?_
              refine hv_goto C dX9_layWorths_135 (tgt := 72) (by decide) ?_
              refine hv_lsub [0, 2, 1, 4, 5, 6, 7] (lv' := [(7, .int (zI (((mz_at (gS g) (gR g) (i + 1)) : Int)))), (6, .int (zI ((mz_am g wv5 h (i + 1)).2))), (5, .int (zI (zB ((mz_am g wv5 h (i + 1)).1)))), (4, .int (zI ((h : Int)))), (3, .int (zI (((4 ^ gS g : Nat) : Int)))), (0, .ref m9), (1, .ref r9)]) rfl ?_
              obtain ⟨k8, rfl⟩ : ∃ k8, n8 = k8 + 1 := ⟨n8 - 1, by omega⟩
              exact ih k8 (i + 1) (by omega) (by omega)
  · have hke : ld = mz_key g := by omega
    refine hv_weq (ws' := [(m9, .inr (7, [.int (zI (rf)), .ref xt, .int (zI (sz)), .ref nw, .ref tr, .ref di, .int (zI (ac)), .ref ke, .ref ik, .ref wt, .int (zI (mz_key g)), .int (zI (sp)), .int (zI (ou))])), (r9, .inl (dA 0, 12, .inl (fun i => zI (g i)))), (wt, .inl (dA 0, 4096, .inl (fun i => zI (wv i))))]) (by rw [hke]) ?_
    exact hv_vret C M dX9_layWorths_34 rfl wv (mz_LW_same hg hl hke.symm) rfl [] (List.Perm.of_eq (by first | rfl | exact (List.append_nil _).symm)) (Nat.le_refl _) (Nat.le_refl _)

set_option maxHeartbeats 4000000 in
set_option maxRecDepth 100000 in
theorem k_X9_worthOf (l : Launch) (D : va_G) (dA : Nat → ClassId) (m9 xt nw tr di ke ik wt : Nat) (rf sz ac ld sp ou : Int) (r9 : Nat) (g : Nat → Int) (hg : WF g) (wv : Nat → Int) (hl : mz_LW ld wv) : hv_Ct l yX9_worthOf (hw_W yX9_worthOf cX9_worthOf 2 (some .int)) 6 D dA [.ref m9, .ref r9] ([(m9, .inr (7, [.int (zI (rf)), .ref xt, .int (zI (sz)), .ref nw, .ref tr, .ref di, .int (zI (ac)), .ref ke, .ref ik, .ref wt, .int (zI (ld)), .int (zI (sp)), .int (zI (ou))])), (r9, .inl (dA 0, 12, .inl (fun i => zI (g i)))), (wt, .inl (dA 0, 4096, .inl (fun i => zI (wv i))))]) 0 0 (S := Nat → Int) (fun _ => some (.int (zI (ox_w g)))) (fun u => mz_ws g u) (fun u => [(m9, .inr (7, [.int (zI (rf)), .ref xt, .int (zI (sz)), .ref nw, .ref tr, .ref di, .int (zI (ac)), .ref ke, .ref ik, .ref wt, .int (zI (mz_key g)), .int (zI (sp)), .int (zI (ou))])), (r9, .inl (dA 0, 12, .inl (fun i => zI (g i)))), (wt, .inl (dA 0, 4096, .inl (fun i => zI (u i))))]) := by
  have hgx := hg.x
  refine hv_of (cc := cX9_worthOf) (maxL := 2) (ret := (some .int)) (own := RX9) rfl (by decide) rfl (Nat.le_of_ble_eq_true rfl) ?_
  intro p e s m args below meth c C M
  refine hv_lveq (lv' := [(0, .ref m9), (1, .ref r9)]) rfl ?_
  refine hv_aload_n C dX9_worthOf_0 0 rfl ?_
  refine hv_aload_n C dX9_worthOf_1 1 rfl ?_
  refine hv_callV (As := [.ref r9]) (rest := []) (wc := [(m9, .inr (7, [.int (zI (rf)), .ref xt, .int (zI (sz)), .ref nw, .ref tr, .ref di, .int (zI (ac)), .ref ke, .ref ik, .ref wt, .int (zI (ld)), .int (zI (sp)), .int (zI (ou))])), (r9, .inl (dA 0, 12, .inl (fun i => zI (g i)))), (wt, .inl (dA 0, 4096, .inl (fun i => zI (wv i))))]) (wr := []) C (k_X9_layWorths l D dA m9 xt nw tr di ke ik wt rf sz ac ld sp ou r9 g hg wv hl) (cwV 1 C.1.2.2.2.2 (hw_V tw_m_RX9_98 tw_i_X9_layWorths tw_s_X9_layWorths tw_n_RX9 tw_k_X9_layWorths) rfl rfl rfl (by decide +kernel) ⟨Nat.le_of_ble_eq_true rfl, Nat.le_of_ble_eq_true rfl⟩) (hv_pm [0, 0, 0] rfl) rfl 0 7 rfl rfl rfl (Nat.le_of_ble_eq_true rfl) dX9_worthOf_2 ⟨Nat.le_of_ble_eq_true rfl, Nat.le_of_ble_eq_true rfl⟩ (fun u7 hu7 => ?_)
  refine hv_eqst (st' := []) rfl ?_
  refine hv_weq (ws' := [(m9, .inr (7, [.int (zI (rf)), .ref xt, .int (zI (sz)), .ref nw, .ref tr, .ref di, .int (zI (ac)), .ref ke, .ref ik, .ref wt, .int (zI (mz_key g)), .int (zI (sp)), .int (zI (ou))])), (r9, .inl (dA 0, 12, .inl (fun i => zI (g i)))), (wt, .inl (dA 0, 4096, .inl (fun i => zI (u7 i))))]) (rfl) ?_
  refine hv_aload_n C dX9_worthOf_5 0 rfl ?_
  refine hv_get C dX9_worthOf_6 (fun w h => hw_c (tw_u_9 w h)) 0 (ci := 7) rfl rfl 9 (by decide) (hw_c tw_f_RX9_29) rfl ?_
  refine hv_aload_n C dX9_worthOf_9 1 rfl ?_
  refine hv_iconst C dX9_worthOf_10 (v := zI (1)) rfl ?_
  refine hv_iald C dX9_worthOf_11 1 rfl (1) (rfl) (by omega) (by omega) (v := (zI (g 1))) rfl ?_
  refine hv_iald C dX9_worthOf_12 2 rfl (gH g) (zI_ix hg.e1) (by omega) (by omega) (v := (zI (ox_w g))) (by rw [hu7 _ hg.H]; rfl) ?_
  exact hv_iret C M dX9_worthOf_13 rfl rfl u7 hu7 rfl [] (List.Perm.of_eq (by first | rfl | exact (List.append_nil _).symm)) (Nat.le_refl _) (Nat.le_refl _)

theorem mz_ws_b {g wv : Nat → Int} {h : Nat} (hw : mz_ws g wv) (hh : h < 4 ^ gS g) : mz_wb g wv h := fun b hb => hw b (by omega)
theorem mz_isb {g wv : Nat → Int} (hg : WF g) (hw : mz_ws g wv) {h c9 : Nat} (hh : h < 4 ^ gS g) (e : ¬ sp_cc h c9 = h) : wo_isb (gS g) (gW g) (gR g) h c9 = decide (mz_T g wv h c9 = wv h) := by
  unfold wo_isb
  rw [mz_T_eq (mz_ws_b hw hh) e, hw h hh]
  exact decide_eq_decide.mpr (mz_mul9 hg.2.2.2.2.1).2.symm
theorem mz_isbn {g : Nat → Int} (hg : WF g) {h c9 : Nat} (hh : h < 4 ^ gS g) (e : sp_cc h c9 = h) : wo_isb (gS g) (gW g) (gR g) h c9 = false := by
  unfold wo_isb wo_gain
  rw [if_pos e]
  have := wo_6 (w := gW g) hg.S hg.R hh
  exact decide_eq_false (by omega)
theorem mz_at_g {S r i : Nat} (hi : i < (wo_cls S r).length) : mz_at S r i = (wo_cls S r).getD i 0 := by
  unfold mz_at
  rw [List.getD_eq_getElem?_getD, List.getD_eq_getElem?_getD, List.getElem?_eq_getElem hi]
  rfl
theorem mz_isb_up {S w r h i : Nat} (q : ∀ j, j < i → wo_isb S w r h (mz_at S r j) = false) (e : wo_isb S w r h (mz_at S r i) = false) : ∀ j, j < i + 1 → wo_isb S w r h (mz_at S r j) = false := by
  intro j hj
  rcases Nat.lt_or_ge j i with z | z
  · exact q j z
  · obtain rfl : j = i := by omega
    exact e
theorem mz_bt {S w r h i : Nat} (hi : i < (wo_cls S r).length) (q : ∀ j, j < i → wo_isb S w r h (mz_at S r j) = false) (e : wo_isb S w r h (mz_at S r i) = true) : wo_best S w r h = (mz_at S r i : Nat) := by
  rw [mz_at_g hi] at e ⊢
  refine wo_best_t hi (fun j hj => ?_) (of_decide_eq_true e)
  rw [← mz_at_g (by omega)]
  exact q j hj
theorem mz_bf {S w r h i : Nat} (hi : (wo_cls S r).length ≤ i) (q : ∀ j, j < i → wo_isb S w r h (mz_at S r j) = false) : wo_best S w r h = -1 := by
  refine wo_best_f (fun j hj => ?_)
  rw [← mz_at_g hj]
  exact q j (by omega)
def ox_best (g : Nat → Int) : Int := wo_best (gS g) (gW g) (gR g) (gH g)

set_option maxHeartbeats 4000000 in
set_option maxRecDepth 100000 in
theorem k_X9_best (l : Launch) (D : va_G) (dA : Nat → ClassId) (m9 xt nw tr di ke ik wt : Nat) (rf sz ac ld sp ou : Int) (r9 : Nat) (g : Nat → Int) (hg : WF g) (wv : Nat → Int) (hl : mz_LW ld wv) : hv_Ct l yX9_best (hw_W yX9_best cX9_best 3 (some .int)) 6 D dA [.ref m9, .ref r9] ([(m9, .inr (7, [.int (zI (rf)), .ref xt, .int (zI (sz)), .ref nw, .ref tr, .ref di, .int (zI (ac)), .ref ke, .ref ik, .ref wt, .int (zI (ld)), .int (zI (sp)), .int (zI (ou))])), (r9, .inl (dA 0, 12, .inl (fun i => zI (g i)))), (wt, .inl (dA 0, 4096, .inl (fun i => zI (wv i))))]) 0 0 (S := Nat → Int) (fun _ => some (.int (zI (ox_best g)))) (fun u => mz_ws g u) (fun u => [(m9, .inr (7, [.int (zI (rf)), .ref xt, .int (zI (sz)), .ref nw, .ref tr, .ref di, .int (zI (ac)), .ref ke, .ref ik, .ref wt, .int (zI (mz_key g)), .int (zI (sp)), .int (zI (ou))])), (r9, .inl (dA 0, 12, .inl (fun i => zI (g i)))), (wt, .inl (dA 0, 4096, .inl (fun i => zI (u i))))]) := by
  have hgx := hg.x
  have hg1 := hg.e1
  refine hv_of (cc := cX9_best) (maxL := 3) (ret := (some .int)) (own := RX9) rfl (by decide) rfl (Nat.le_of_ble_eq_true rfl) ?_
  intro p e s m args below meth c C M
  refine hv_lveq (lv' := [(0, .ref m9), (1, .ref r9)]) rfl ?_
  refine hv_aload_n C dX9_best_0 0 rfl ?_
  refine hv_aload_n C dX9_best_1 1 rfl ?_
  refine hv_callV (As := [.ref r9]) (rest := []) (wc := [(m9, .inr (7, [.int (zI (rf)), .ref xt, .int (zI (sz)), .ref nw, .ref tr, .ref di, .int (zI (ac)), .ref ke, .ref ik, .ref wt, .int (zI (ld)), .int (zI (sp)), .int (zI (ou))])), (r9, .inl (dA 0, 12, .inl (fun i => zI (g i)))), (wt, .inl (dA 0, 4096, .inl (fun i => zI (wv i))))]) (wr := []) C (k_X9_layWorths l D dA m9 xt nw tr di ke ik wt rf sz ac ld sp ou r9 g hg wv hl) (cwV 1 C.1.2.2.2.2 (hw_V tw_m_RX9_98 tw_i_X9_layWorths tw_s_X9_layWorths tw_n_RX9 tw_k_X9_layWorths) rfl rfl rfl (by decide +kernel) ⟨Nat.le_of_ble_eq_true rfl, Nat.le_of_ble_eq_true rfl⟩) (hv_pm [0, 0, 0] rfl) rfl 0 7 rfl rfl rfl (Nat.le_of_ble_eq_true rfl) dX9_best_2 ⟨Nat.le_of_ble_eq_true rfl, Nat.le_of_ble_eq_true rfl⟩ (fun u7 hu7 => ?_)
  refine hv_eqst (st' := []) rfl ?_
  refine hv_weq (ws' := [(m9, .inr (7, [.int (zI (rf)), .ref xt, .int (zI (sz)), .ref nw, .ref tr, .ref di, .int (zI (ac)), .ref ke, .ref ik, .ref wt, .int (zI (mz_key g)), .int (zI (sp)), .int (zI (ou))])), (r9, .inl (dA 0, 12, .inl (fun i => zI (g i)))), (wt, .inl (dA 0, 4096, .inl (fun i => zI (u7 i))))]) (rfl) ?_
  refine hv_iconst C dX9_best_5 (v := zI (1)) rfl ?_
  refine hv_istore_n C dX9_best_6 (lw := [(2, .int (zI (1))), (0, .ref m9), (1, .ref r9)]) (by decide) rfl ?_
  refine hv_loop (σ := Nat) (fun n8 x => x + n8 = (wo_cls (gS g) (gR g)).length ∧ ∀ j, j < x → wo_isb (gS g) (gW g) (gR g) (gH g) (mz_at (gS g) (gR g) j) = false) (fun x => [(m9, .inr (7, [.int (zI (rf)), .ref xt, .int (zI (sz)), .ref nw, .ref tr, .ref di, .int (zI (ac)), .ref ke, .ref ik, .ref wt, .int (zI (mz_key g)), .int (zI (sp)), .int (zI (ou))])), (r9, .inl (dA 0, 12, .inl (fun i => zI (g i)))), (wt, .inl (dA 0, 4096, .inl (fun i => zI (u7 i))))]) (fun x => [(2, .int (zI (((mz_at (gS g) (gR g) x) : Int)))), (0, .ref m9), (1, .ref r9)]) (fun x => []) (fun _ => 0) (fun _ => 0) ((wo_cls (gS g) (gR g)).length) (0) (⟨Nat.zero_add _, fun j hj => absurd hj (Nat.not_lt_zero _)⟩) (⟨rfl, by rw [mz_at_0 hg.S hg.R]; rfl, rfl, rfl, rfl⟩) (fun n8 x hJ ih => ?_)
  obtain ⟨i, rfl⟩ : ∃ i, i = x := ⟨x, rfl⟩
  obtain ⟨hJ1, hq8⟩ := hJ
  have hatl := mz_at_le hg.S hg.R (i := i) (by omega)
  refine hv_iload_n C dX9_best_7 0 rfl ?_
  refine hv_sipush C dX9_best_8 (v := zI (1000)) (by decide +kernel) ?_
  refine hv_icmp_ge C dX9_best_11 (tgt := 57) (by decide) (zI_le (by omega)) (fun hc11 => ?_) (fun hc11 => ?_)
  · have hil := mz_at_len hg.S hg.R (i := i) (by omega)
    refine hv_iconst C dX9_best_57 (v := zI (-1)) rfl ?_
    exact hv_iret C M dX9_best_58 rfl rfl u7 hu7 (hv_rv (mz_bf hil hq8)) [] (List.Perm.of_eq (by first | rfl | exact (List.append_nil _).symm)) (Nat.le_refl _) (Nat.le_refl _)
  · have hlt9 : i < (wo_cls (gS g) (gR g)).length := Nat.lt_of_not_le (fun q => by rw [mz_at_out q] at hc11; omega)
    have hat := (mz_at_n hg.S hg.R hlt9).2
    have hnx := (mz_at_n hg.S hg.R hlt9).1
    have hmem := mz_at_in hlt9
    refine hv_aload_n C dX9_best_14 1 rfl ?_
    refine hv_aload_n C dX9_best_15 2 rfl ?_
    refine hv_aload_n C dX9_best_16 2 rfl ?_
    refine hv_iconst C dX9_best_17 (v := zI (1)) rfl ?_
    refine hv_iald C dX9_best_18 1 rfl (1) (rfl) (by omega) (by omega) (v := (zI (g 1))) rfl ?_
    refine hv_iload_n C dX9_best_19 0 rfl ?_
    refine hv_callV (As := [.ref r9, .int (zI (g 1)), .int (zI (((mz_at (gS g) (gR g) i) : Int)))]) (rest := []) (wc := [(m9, .inr (7, [.int (zI (rf)), .ref xt, .int (zI (sz)), .ref nw, .ref tr, .ref di, .int (zI (ac)), .ref ke, .ref ik, .ref wt, .int (zI (mz_key g)), .int (zI (sp)), .int (zI (ou))])), (r9, .inl (dA 0, 12, .inl (fun i => zI (g i))))]) (wr := [(wt, .inl (dA 0, 4096, .inl (fun i => zI (u7 i))))]) C (k_X9_may l D dA xt nw tr di ke ik wt rf sz ac (mz_key g) sp ou m9 r9 g hg (gH g) hg.e1 hg.H (mz_at (gS g) (gR g) i) rfl hmem) (cwV 3 C.1.2.2.2.2 (hw_V tw_m_RX9_88 tw_i_X9_may tw_s_X9_may tw_n_RX9 tw_k_X9_may) rfl rfl rfl (by decide +kernel) ⟨Nat.le_of_ble_eq_true rfl, Nat.le_of_ble_eq_true rfl⟩) (hv_pm [0, 0] rfl) rfl 0 7 rfl rfl rfl (Nat.le_of_ble_eq_true rfl) dX9_best_20 ⟨Nat.le_of_ble_eq_true rfl, Nat.le_of_ble_eq_true rfl⟩ (fun _ _ => ?_)
    refine hv_eqst (st' := [.int (zI (zB (decide (¬ sp_cc (gH g) (mz_at (gS g) (gR g) i) = (gH g)))))]) rfl ?_
    refine hv_weq (ws' := [(m9, .inr (7, [.int (zI (rf)), .ref xt, .int (zI (sz)), .ref nw, .ref tr, .ref di, .int (zI (ac)), .ref ke, .ref ik, .ref wt, .int (zI (mz_key g)), .int (zI (sp)), .int (zI (ou))])), (r9, .inl (dA 0, 12, .inl (fun i => zI (g i)))), (wt, .inl (dA 0, 4096, .inl (fun i => zI (u7 i))))]) (rfl) ?_
    refine hv_if_eq C dX9_best_23 (tgt := 48) (by decide) zB_0 (fun hc23 => ?_) (fun hc23 => ?_)
    · have hib := mz_isbn hg hg.H (Decidable.not_not.mp hc23)
      refine hv_aload_n C dX9_best_48 2 rfl ?_
      refine hv_iload_n C dX9_best_49 0 rfl ?_
      refine hv_callS (As := [.ref r9, .int (zI (((mz_at (gS g) (gR g) i) : Int)))]) (rest := []) (wc := [(r9, .inl (dA 0, 12, .inl (fun i => zI (g i))))]) (wr := [(m9, .inr (7, [.int (zI (rf)), .ref xt, .int (zI (sz)), .ref nw, .ref tr, .ref di, .int (zI (ac)), .ref ke, .ref ik, .ref wt, .int (zI (mz_key g)), .int (zI (sp)), .int (zI (ou))])), (wt, .inl (dA 0, 4096, .inl (fun i => zI (u7 i))))]) C (k_X9_next l D dA r9 g hg (mz_at (gS g) (gR g) i) rfl hat) (va_cwS 2 C.1.2.2.2.2 (hw_S tw_m_RX9_95 tw_t_X9_next tw_n_RX9 tw_k_X9_next) rfl rfl rfl (by decide +kernel) ⟨Nat.le_of_ble_eq_true rfl, Nat.le_of_ble_eq_true rfl⟩) (hv_pm [1] rfl) rfl rfl (Nat.le_of_ble_eq_true rfl) dX9_best_50 ⟨Nat.le_of_ble_eq_true rfl, Nat.le_of_ble_eq_true rfl⟩ (fun _ _ => ?_)
      refine hv_eqst (st' := [.int (zI ((mz_n (gS g) (gR g) (mz_at (gS g) (gR g) i) : Int)))]) rfl ?_
      refine hv_weq (ws' := [(r9, .inl (dA 0, 12, .inl (fun i => zI (g i)))), (m9, .inr (7, [.int (zI (rf)), .ref xt, .int (zI (sz)), .ref nw, .ref tr, .ref di, .int (zI (ac)), .ref ke, .ref ik, .ref wt, .int (zI (mz_key g)), .int (zI (sp)), .int (zI (ou))])), (wt, .inl (dA 0, 4096, .inl (fun i => zI (u7 i))))]) (rfl) ?_
      refine hv_srt [1, 0, 0] (ws' := [(m9, .inr (7, [.int (zI (rf)), .ref xt, .int (zI (sz)), .ref nw, .ref tr, .ref di, .int (zI (ac)), .ref ke, .ref ik, .ref wt, .int (zI (mz_key g)), .int (zI (sp)), .int (zI (ou))])), (r9, .inl (dA 0, 12, .inl (fun i => zI (g i)))), (wt, .inl (dA 0, 4096, .inl (fun i => zI (u7 i))))]) rfl ?_
      refine hv_topi (y := zI (((mz_at (gS g) (gR g) (i + 1)) : Nat) : Int)) (by rw [hnx]) ?_
      refine hv_istore_n C dX9_best_53 (lw := [(2, .int (zI (((mz_at (gS g) (gR g) (i + 1)) : Int)))), (0, .ref m9), (1, .ref r9)]) (by decide) rfl ?_
      refine hv_goto C dX9_best_54 (tgt := 7) (by decide) ?_
      refine hv_lsub [0, 1, 2] (lv' := [(2, .int (zI (((mz_at (gS g) (gR g) (i + 1)) : Int)))), (0, .ref m9), (1, .ref r9)]) rfl ?_
      obtain ⟨k8, rfl⟩ : ∃ k8, n8 = k8 + 1 := ⟨n8 - 1, by omega⟩
      exact ih k8 (i + 1) (by omega) ⟨by omega, mz_isb_up hq8 hib⟩
    · have hTr := mz_T_ran hg hg.H (mz_ws_b hu7 hg.H) (Decidable.not_not.mp hc23)
      have hTb := mz_isb hg hu7 hg.H (Decidable.not_not.mp hc23)
      have hwr := hu7 _ hg.H
      have hwr2 := ox_w_ran hg hg.H
      rw [← hwr] at hwr2
      refine hv_aload_n C dX9_best_26 1 rfl ?_
      refine hv_aload_n C dX9_best_27 2 rfl ?_
      refine hv_aload_n C dX9_best_28 2 rfl ?_
      refine hv_iconst C dX9_best_29 (v := zI (1)) rfl ?_
      refine hv_iald C dX9_best_30 1 rfl (1) (rfl) (by omega) (by omega) (v := (zI (g 1))) rfl ?_
      refine hv_iload_n C dX9_best_31 0 rfl ?_
      refine hv_callV (As := [.ref r9, .int (zI (g 1)), .int (zI (((mz_at (gS g) (gR g) i) : Int)))]) (rest := []) (wc := [(m9, .inr (7, [.int (zI (rf)), .ref xt, .int (zI (sz)), .ref nw, .ref tr, .ref di, .int (zI (ac)), .ref ke, .ref ik, .ref wt, .int (zI (mz_key g)), .int (zI (sp)), .int (zI (ou))])), (r9, .inl (dA 0, 12, .inl (fun i => zI (g i)))), (wt, .inl (dA 0, 4096, .inl (fun i => zI (u7 i))))]) (wr := []) C (k_X9_tried l D dA xt nw tr di ke ik wt rf sz ac (mz_key g) sp ou m9 r9 g hg u7 (gH g) hg.e1 hg.H (mz_at (gS g) (gR g) i) rfl hmem) (cwV 3 C.1.2.2.2.2 (hw_V tw_m_RX9_92 tw_i_X9_tried tw_s_X9_tried tw_n_RX9 tw_k_X9_tried) rfl rfl rfl (by decide +kernel) ⟨Nat.le_of_ble_eq_true rfl, Nat.le_of_ble_eq_true rfl⟩) (hv_pm [0, 0, 0] rfl) rfl 0 7 rfl rfl rfl (Nat.le_of_ble_eq_true rfl) dX9_best_32 ⟨Nat.le_of_ble_eq_true rfl, Nat.le_of_ble_eq_true rfl⟩ (fun _ _ => ?_)
      refine hv_eqst (st' := [.int (zI (mz_T g u7 (gH g) (mz_at (gS g) (gR g) i)))]) rfl ?_
      refine hv_weq (ws' := [(m9, .inr (7, [.int (zI (rf)), .ref xt, .int (zI (sz)), .ref nw, .ref tr, .ref di, .int (zI (ac)), .ref ke, .ref ik, .ref wt, .int (zI (mz_key g)), .int (zI (sp)), .int (zI (ou))])), (r9, .inl (dA 0, 12, .inl (fun i => zI (g i)))), (wt, .inl (dA 0, 4096, .inl (fun i => zI (u7 i))))]) (rfl) ?_
      refine hv_aload_n C dX9_best_35 1 rfl ?_
      refine hv_get C dX9_best_36 (fun w h => hw_c (tw_u_9 w h)) 0 (ci := 7) rfl rfl 9 (by decide) (hw_c tw_f_RX9_29) rfl ?_
      refine hv_aload_n C dX9_best_39 2 rfl ?_
      refine hv_iconst C dX9_best_40 (v := zI (1)) rfl ?_
      refine hv_iald C dX9_best_41 1 rfl (1) (rfl) (by omega) (by omega) (v := (zI (g 1))) rfl ?_
      refine hv_iald C dX9_best_42 2 rfl (gH g) (zI_ix hg.e1) (by omega) (by omega) (v := (zI (u7 (gH g)))) rfl ?_
      refine hv_icmp_ne C dX9_best_43 (tgt := 48) (by decide) (zI_ne (by omega)) (fun hc43 => ?_) (fun hc43 => ?_)
      · have hib := hTb.trans (decide_eq_false hc43)
        refine hv_aload_n C dX9_best_48 2 rfl ?_
        refine hv_iload_n C dX9_best_49 0 rfl ?_
        refine hv_callS (As := [.ref r9, .int (zI (((mz_at (gS g) (gR g) i) : Int)))]) (rest := []) (wc := [(r9, .inl (dA 0, 12, .inl (fun i => zI (g i))))]) (wr := [(m9, .inr (7, [.int (zI (rf)), .ref xt, .int (zI (sz)), .ref nw, .ref tr, .ref di, .int (zI (ac)), .ref ke, .ref ik, .ref wt, .int (zI (mz_key g)), .int (zI (sp)), .int (zI (ou))])), (wt, .inl (dA 0, 4096, .inl (fun i => zI (u7 i))))]) C (k_X9_next l D dA r9 g hg (mz_at (gS g) (gR g) i) rfl hat) (va_cwS 2 C.1.2.2.2.2 (hw_S tw_m_RX9_95 tw_t_X9_next tw_n_RX9 tw_k_X9_next) rfl rfl rfl (by decide +kernel) ⟨Nat.le_of_ble_eq_true rfl, Nat.le_of_ble_eq_true rfl⟩) (hv_pm [1] rfl) rfl rfl (Nat.le_of_ble_eq_true rfl) dX9_best_50 ⟨Nat.le_of_ble_eq_true rfl, Nat.le_of_ble_eq_true rfl⟩ (fun _ _ => ?_)
        refine hv_eqst (st' := [.int (zI ((mz_n (gS g) (gR g) (mz_at (gS g) (gR g) i) : Int)))]) rfl ?_
        refine hv_weq (ws' := [(r9, .inl (dA 0, 12, .inl (fun i => zI (g i)))), (m9, .inr (7, [.int (zI (rf)), .ref xt, .int (zI (sz)), .ref nw, .ref tr, .ref di, .int (zI (ac)), .ref ke, .ref ik, .ref wt, .int (zI (mz_key g)), .int (zI (sp)), .int (zI (ou))])), (wt, .inl (dA 0, 4096, .inl (fun i => zI (u7 i))))]) (rfl) ?_
        refine hv_srt [1, 0, 0] (ws' := [(m9, .inr (7, [.int (zI (rf)), .ref xt, .int (zI (sz)), .ref nw, .ref tr, .ref di, .int (zI (ac)), .ref ke, .ref ik, .ref wt, .int (zI (mz_key g)), .int (zI (sp)), .int (zI (ou))])), (r9, .inl (dA 0, 12, .inl (fun i => zI (g i)))), (wt, .inl (dA 0, 4096, .inl (fun i => zI (u7 i))))]) rfl ?_
        refine hv_topi (y := zI (((mz_at (gS g) (gR g) (i + 1)) : Nat) : Int)) (by rw [hnx]) ?_
        refine hv_istore_n C dX9_best_53 (lw := [(2, .int (zI (((mz_at (gS g) (gR g) (i + 1)) : Int)))), (0, .ref m9), (1, .ref r9)]) (by decide) rfl ?_
        refine hv_goto C dX9_best_54 (tgt := 7) (by decide) ?_
        refine hv_lsub [0, 1, 2] (lv' := [(2, .int (zI (((mz_at (gS g) (gR g) (i + 1)) : Int)))), (0, .ref m9), (1, .ref r9)]) rfl ?_
        obtain ⟨k8, rfl⟩ : ∃ k8, n8 = k8 + 1 := ⟨n8 - 1, by omega⟩
        exact ih k8 (i + 1) (by omega) ⟨by omega, mz_isb_up hq8 hib⟩
      · have hib := hTb.trans (decide_eq_true (Decidable.not_not.mp hc43))
        refine hv_iload_n C dX9_best_46 0 rfl ?_
        exact hv_iret C M dX9_best_47 rfl rfl u7 hu7 (hv_rv (mz_bt hlt9 hq8 hib)) [] (List.Perm.of_eq (by first | rfl | exact (List.append_nil _).symm)) (Nat.le_refl _) (Nat.le_refl _)

theorem ox_best_t {g : Nat → Int} {c9 : Nat} (e : ox_fst g = some c9) : ox_best g = (c9 : Int) := by
  unfold ox_best wo_best
  unfold ox_fst at e
  rw [e]
theorem ox_best_f {g : Nat → Int} (e : ox_fst g = none) : ox_best g = -1 := by
  unfold ox_best wo_best
  unfold ox_fst at e
  rw [e]

set_option maxHeartbeats 4000000 in
set_option maxRecDepth 100000 in
theorem k_X9_bestOn (l : Launch) (D : va_G) (dA : Nat → ClassId) (m9 xt nw tr di ke ik wt : Nat) (rf sz ac ld sp ou : Int) (r9 : Nat) (g : Nat → Int) (hg : WF g) (wv : Nat → Int) (hl : mz_LW ld wv) : hv_Ct l yX9_bestOn (hw_W yX9_bestOn cX9_bestOn 3 (some .boolean)) 8 D dA [.ref m9, .ref r9] ([(m9, .inr (7, [.int (zI (rf)), .ref xt, .int (zI (sz)), .ref nw, .ref tr, .ref di, .int (zI (ac)), .ref ke, .ref ik, .ref wt, .int (zI (ld)), .int (zI (sp)), .int (zI (ou))])), (r9, .inl (dA 0, 12, .inl (fun i => zI (g i)))), (wt, .inl (dA 0, 4096, .inl (fun i => zI (wv i))))]) 0 0 (S := Nat → Int) (fun _ => some (.int (zI (zB (ox_isb g))))) (fun u => mz_ws g u) (fun u => [(m9, .inr (7, [.int (zI (rf)), .ref xt, .int (zI (sz)), .ref nw, .ref tr, .ref di, .int (zI (ac)), .ref ke, .ref ik, .ref wt, .int (zI (mz_key g)), .int (zI (sp)), .int (zI (ou))])), (r9, .inl (dA 0, 12, .inl (fun i => zI ((ox_tb g) i)))), (wt, .inl (dA 0, 4096, .inl (fun i => zI (u i))))]) := by
  have hSS := hg.S
  refine hv_of (cc := cX9_bestOn) (maxL := 3) (ret := (some .boolean)) (own := RX9) rfl (by decide) rfl (Nat.le_of_ble_eq_true rfl) ?_
  intro p e s m args below meth c C M
  refine hv_lveq (lv' := [(0, .ref m9), (1, .ref r9)]) rfl ?_
  refine hv_aload_n C dX9_bestOn_0 0 rfl ?_
  refine hv_aload_n C dX9_bestOn_1 1 rfl ?_
  refine hv_callV (As := [.ref r9]) (rest := []) (wc := [(m9, .inr (7, [.int (zI (rf)), .ref xt, .int (zI (sz)), .ref nw, .ref tr, .ref di, .int (zI (ac)), .ref ke, .ref ik, .ref wt, .int (zI (ld)), .int (zI (sp)), .int (zI (ou))])), (r9, .inl (dA 0, 12, .inl (fun i => zI (g i)))), (wt, .inl (dA 0, 4096, .inl (fun i => zI (wv i))))]) (wr := []) C (k_X9_best l D dA m9 xt nw tr di ke ik wt rf sz ac ld sp ou r9 g hg wv hl) (cwV 1 C.1.2.2.2.2 (hw_V tw_m_RX9_104 tw_i_X9_best tw_s_X9_best tw_n_RX9 tw_k_X9_best) rfl rfl rfl (by decide +kernel) ⟨Nat.le_of_ble_eq_true rfl, Nat.le_of_ble_eq_true rfl⟩) (hv_pm [0, 0, 0] rfl) rfl 0 7 rfl rfl rfl (Nat.le_of_ble_eq_true rfl) dX9_bestOn_2 ⟨Nat.le_of_ble_eq_true rfl, Nat.le_of_ble_eq_true rfl⟩ (fun u7 hu7 => ?_)
  refine hv_eqst (st' := [.int (zI (ox_best g))]) rfl ?_
  refine hv_weq (ws' := [(m9, .inr (7, [.int (zI (rf)), .ref xt, .int (zI (sz)), .ref nw, .ref tr, .ref di, .int (zI (ac)), .ref ke, .ref ik, .ref wt, .int (zI (mz_key g)), .int (zI (sp)), .int (zI (ou))])), (r9, .inl (dA 0, 12, .inl (fun i => zI (g i)))), (wt, .inl (dA 0, 4096, .inl (fun i => zI (u7 i))))]) (rfl) ?_
  cases efs : ox_fst g
  · refine hv_topi (y := zI (-1)) (by rw [ox_best_f efs]) ?_
    refine hv_istore_n C dX9_bestOn_5 (lw := [(2, .int (zI (-1))), (0, .ref m9), (1, .ref r9)]) (by decide) rfl ?_
    refine hv_iload_n C dX9_bestOn_6 0 rfl ?_
    refine hv_iconst C dX9_bestOn_7 (v := zI (-1)) rfl ?_
    refine hv_icmp_eq C dX9_bestOn_8 (tgt := 31) (by decide) (zI_eq (by omega)) (fun hc8 => ?_) (fun hc8 => ?_)
    · refine hv_iload_n C dX9_bestOn_31 0 rfl ?_
      refine hv_iconst C dX9_bestOn_32 (v := zI (-1)) rfl ?_
      refine hv_icmp_eq C dX9_bestOn_33 (tgt := 40) (by decide) (zI_eq (by omega)) (fun hc33 => ?_) (fun hc33 => ?_)
      · refine hv_iconst C dX9_bestOn_40 (v := zI (0)) rfl ?_
        exact hv_iret C M dX9_bestOn_41 rfl zB_n2 u7 hu7 (hv_rv (by unfold ox_isb; rw [efs]; rfl)) [] (List.Perm.of_eq (by unfold ox_tb; rw [efs]; rfl)) (Nat.le_refl _) (Nat.le_refl _)
      · exfalso; omega
    · exfalso; omega
  · rename_i c9
    refine hv_topi (y := zI (c9 : Int)) (by rw [ox_best_t efs]) ?_
    have hok := ox_fst_ok hg efs
    obtain ⟨⟨hk1, hk2, hk3, hk4⟩, hnc⟩ := hok
    have hc1000 : c9 < 1000 := by rcases Nat.lt_or_ge c9 1000 with q | q; exact q; exact absurd hk1 (by omega)
    refine hv_istore_n C dX9_bestOn_5 (lw := [(2, .int (zI ((c9 : Int)))), (0, .ref m9), (1, .ref r9)]) (by decide) rfl ?_
    refine hv_iload_n C dX9_bestOn_6 0 rfl ?_
    refine hv_iconst C dX9_bestOn_7 (v := zI (-1)) rfl ?_
    refine hv_icmp_eq C dX9_bestOn_8 (tgt := 31) (by decide) (zI_eq (by omega)) (fun hc8 => ?_) (fun hc8 => ?_)
    · exfalso; omega
    · refine hv_aload_n C dX9_bestOn_11 2 rfl ?_
      refine hv_iload_n C dX9_bestOn_12 0 rfl ?_
      refine hv_bipush C dX9_bestOn_13 (v := zI (100)) (by decide +kernel) ?_
      refine hv_idiv C dX9_bestOn_15 (z := zI (((c9 / 100 : Nat) : Int))) ((zI_ne0 (by omega)).mpr (by omega)) ((zI_div (by omega)).trans (zI_c (by omega))) ?_
      refine hv_iload_n C dX9_bestOn_16 0 rfl ?_
      refine hv_bipush C dX9_bestOn_17 (v := zI (10)) (by decide +kernel) ?_
      refine hv_idiv C dX9_bestOn_19 (z := zI (((c9 / 10 : Nat) : Int))) ((zI_ne0 (by omega)).mpr (by omega)) ((zI_div (by omega)).trans (zI_c (by omega))) ?_
      refine hv_bipush C dX9_bestOn_20 (v := zI (10)) (by decide +kernel) ?_
      refine hv_irem C dX9_bestOn_22 (z := zI (((c9 / 10 % 10 : Nat) : Int))) ((zI_ne0 (by omega)).mpr (by omega)) ((zI_rem (by omega)).trans (zI_c (by omega))) ?_
      refine hv_iload_n C dX9_bestOn_23 0 rfl ?_
      refine hv_bipush C dX9_bestOn_24 (v := zI (10)) (by decide +kernel) ?_
      refine hv_irem C dX9_bestOn_26 (z := zI (((c9 % 10 : Nat) : Int))) ((zI_ne0 (by omega)).mpr (by omega)) ((zI_rem (by omega)).trans (zI_c (by omega))) ?_
      refine hv_callS (As := [.ref r9, .int (zI (((c9 / 100 : Nat) : Int))), .int (zI (((c9 / 10 % 10 : Nat) : Int))), .int (zI (((c9 % 10 : Nat) : Int)))]) (rest := []) (wc := [(r9, .inl (dA 0, 12, .inl (fun i => zI (g i))))]) (wr := [(m9, .inr (7, [.int (zI (rf)), .ref xt, .int (zI (sz)), .ref nw, .ref tr, .ref di, .int (zI (ac)), .ref ke, .ref ik, .ref wt, .int (zI (mz_key g)), .int (zI (sp)), .int (zI (ou))])), (wt, .inl (dA 0, 4096, .inl (fun i => zI (u7 i))))]) C (k_X9_clipOn l D dA r9 g hg (c9 / 100) (c9 / 10 % 10) (c9 % 10) rfl rfl rfl (by omega) (by omega) (by omega)) (va_cwS 4 C.1.2.2.2.2 (hw_S tw_m_RX9_108 tw_t_X9_clipOn tw_n_RX9 tw_k_X9_clipOn) rfl rfl rfl (by decide +kernel) ⟨Nat.le_of_ble_eq_true rfl, Nat.le_of_ble_eq_true rfl⟩) (hv_pm [1] rfl) rfl rfl (Nat.le_of_ble_eq_true rfl) dX9_bestOn_27 ⟨Nat.le_of_ble_eq_true rfl, Nat.le_of_ble_eq_true rfl⟩ (fun _ _ => ?_)
      refine hv_eqst (st' := [.int (zI (sp_fi g (gH g) (sp_bh (gS g) (gW g) (gH g) (100 * (c9 / 100) + 10 * (c9 / 10 % 10) + c9 % 10))))]) rfl ?_
      refine hv_weq (ws' := [(r9, .inl (dA 0, 12, .inl (fun i => zI ((ox_clip g (100 * (c9 / 100) + 10 * (c9 / 10 % 10) + c9 % 10)) i)))), (m9, .inr (7, [.int (zI (rf)), .ref xt, .int (zI (sz)), .ref nw, .ref tr, .ref di, .int (zI (ac)), .ref ke, .ref ik, .ref wt, .int (zI (mz_key g)), .int (zI (sp)), .int (zI (ou))])), (wt, .inl (dA 0, 4096, .inl (fun i => zI (u7 i))))]) (rfl) ?_
      refine hv_srt [1, 0, 0] (ws' := [(m9, .inr (7, [.int (zI (rf)), .ref xt, .int (zI (sz)), .ref nw, .ref tr, .ref di, .int (zI (ac)), .ref ke, .ref ik, .ref wt, .int (zI (mz_key g)), .int (zI (sp)), .int (zI (ou))])), (r9, .inl (dA 0, 12, .inl (fun i => zI ((ox_clip g (100 * (c9 / 100) + 10 * (c9 / 10 % 10) + c9 % 10)) i)))), (wt, .inl (dA 0, 4096, .inl (fun i => zI (u7 i))))]) rfl ?_
      refine hv_pop C dX9_bestOn_30 rfl ?_
      refine hv_iload_n C dX9_bestOn_31 0 rfl ?_
      refine hv_iconst C dX9_bestOn_32 (v := zI (-1)) rfl ?_
      refine hv_icmp_eq C dX9_bestOn_33 (tgt := 40) (by decide) (zI_eq (by omega)) (fun hc33 => ?_) (fun hc33 => ?_)
      · exfalso; omega
      · refine hv_iconst C dX9_bestOn_36 (v := zI (1)) rfl ?_
        refine hv_goto C dX9_bestOn_37 (tgt := 41) (by decide) ?_
        exact hv_iret C M dX9_bestOn_41 rfl zB_n1 u7 hu7 (hv_rv (by unfold ox_isb; rw [efs]; rfl)) [] (List.Perm.of_eq (by unfold ox_tb; rw [efs, show 100 * (c9 / 100) + 10 * (c9 / 10 % 10) + c9 % 10 = c9 by omega]; rfl)) (Nat.le_refl _) (Nat.le_refl _)

theorem mz_w0 {x : Int32} (a : x ≤ 0) (b : 0 ≤ x) : x = 0 := by
  have h1 := Int32.le_iff_toInt_le.mp a
  have h2 := Int32.le_iff_toInt_le.mp b
  exact Int32.toInt_inj.mp (by omega)
theorem mz_wg {x : Int32} (a : ¬ x ≤ 0) : 0 < x := by
  rw [Int32.lt_iff_toInt_lt]
  have h1 : ¬ x.toInt ≤ (0 : Int32).toInt := fun q => a (Int32.le_iff_toInt_le.mpr q)
  omega
theorem mz_we {x : Int32} (a : x = 0) : x ≤ 0 := by rw [a]; exact Int32.le_refl _
theorem mz_we2 {x : Int32} (a : x = 0) : 0 ≤ x := by rw [a]; exact Int32.le_refl _
theorem mz_wl {x : Int32} (a : x ≤ 0) (b : 0 < x) : False := by
  have h1 := Int32.le_iff_toInt_le.mp a
  have h2 := Int32.lt_iff_toInt_lt.mp b
  omega

set_option maxHeartbeats 4000000 in
set_option maxRecDepth 100000 in
theorem k_X9_winnerOf (l : Launch) (D : va_G) (dA : Nat → ClassId) (m9 xt nw tr di ke ik wt : Nat) (rf sz ac ld sp ou : Int) (r9 : Nat) (g : Nat → Int) (hg : WF g) (wv : Nat → Int) (hl : mz_LW ld wv) : hv_Ct l yX9_winnerOf (hw_W yX9_winnerOf cX9_winnerOf 4 (some .int)) 7 D dA [.ref m9, .ref r9] ([(m9, .inr (7, [.int (zI (rf)), .ref xt, .int (zI (sz)), .ref nw, .ref tr, .ref di, .int (zI (ac)), .ref ke, .ref ik, .ref wt, .int (zI (ld)), .int (zI (sp)), .int (zI (ou))])), (r9, .inl (dA 0, 12, .inl (fun i => zI (g i)))), (wt, .inl (dA 0, 4096, .inl (fun i => zI (wv i))))]) 0 0 (S := Nat → Int) (fun _ => some (.int (zI (ox_win g)))) (fun u => mz_ws g u) (fun u => [(m9, .inr (7, [.int (zI (rf)), .ref xt, .int (zI (sz)), .ref nw, .ref tr, .ref di, .int (zI (ac)), .ref ke, .ref ik, .ref wt, .int (zI (mz_key g)), .int (zI (sp)), .int (zI (ou))])), (r9, .inl (dA 0, 12, .inl (fun i => zI (g i)))), (wt, .inl (dA 0, 4096, .inl (fun i => zI (u i))))]) := by
  have hg3 := hg.2.2.2.1
  refine hv_of (cc := cX9_winnerOf) (maxL := 4) (ret := (some .int)) (own := RX9) rfl (by decide) rfl (Nat.le_of_ble_eq_true rfl) ?_
  intro p e s m args below meth c C M
  refine hv_lveq (lv' := [(0, .ref m9), (1, .ref r9)]) rfl ?_
  rcases (show g 3 = 0 ∨ g 3 = 1 by omega) with e3 | e3
  · refine hv_aload_n C dX9_winnerOf_0 1 rfl ?_
    refine hv_iconst C dX9_winnerOf_1 (v := zI (3)) rfl ?_
    refine hv_iald C dX9_winnerOf_2 1 rfl (3) (rfl) (by omega) (by omega) (v := (zI (g 3))) rfl ?_
    refine hv_istore_n C dX9_winnerOf_3 (lw := [(2, .int (zI (g 3))), (0, .ref m9), (1, .ref r9)]) (by decide) rfl ?_
    refine hv_aload_n C dX9_winnerOf_4 2 rfl ?_
    refine hv_bipush C dX9_winnerOf_5 (v := zI (7)) (by decide +kernel) ?_
    refine hv_iload_n C dX9_winnerOf_7 0 rfl ?_
    refine hv_isub C dX9_winnerOf_8 (zI_sub _ _) ?_
    refine hv_iald C dX9_winnerOf_9 1 rfl (7) (zI_ix (by omega)) (by omega) (by omega) (v := (zI (g 7))) rfl ?_
    refine hv_aload_n C dX9_winnerOf_10 2 rfl ?_
    refine hv_bipush C dX9_winnerOf_11 (v := zI (6)) (by decide +kernel) ?_
    refine hv_iload_n C dX9_winnerOf_13 0 rfl ?_
    refine hv_iadd C dX9_winnerOf_14 (zI_add _ _) ?_
    refine hv_iald C dX9_winnerOf_15 1 rfl (6) (zI_ix (by omega)) (by omega) (by omega) (v := (zI (g 6))) rfl ?_
    refine hv_isub C dX9_winnerOf_16 (zI_sub _ _) ?_
    refine hv_aload_n C dX9_winnerOf_17 1 rfl ?_
    refine hv_aload_n C dX9_winnerOf_18 2 rfl ?_
    refine hv_callV (As := [.ref r9]) (rest := [.int (zI ((g 7) - (g 6)))]) (wc := [(m9, .inr (7, [.int (zI (rf)), .ref xt, .int (zI (sz)), .ref nw, .ref tr, .ref di, .int (zI (ac)), .ref ke, .ref ik, .ref wt, .int (zI (ld)), .int (zI (sp)), .int (zI (ou))])), (r9, .inl (dA 0, 12, .inl (fun i => zI (g i)))), (wt, .inl (dA 0, 4096, .inl (fun i => zI (wv i))))]) (wr := []) C (k_X9_worthOf l D dA m9 xt nw tr di ke ik wt rf sz ac ld sp ou r9 g hg wv hl) (cwV 1 C.1.2.2.2.2 (hw_V tw_m_RX9_114 tw_i_X9_worthOf tw_s_X9_worthOf tw_n_RX9 tw_k_X9_worthOf) rfl rfl rfl (by decide +kernel) ⟨Nat.le_of_ble_eq_true rfl, Nat.le_of_ble_eq_true rfl⟩) (hv_pm [0, 0, 0] rfl) rfl 0 7 rfl rfl rfl (Nat.le_of_ble_eq_true rfl) dX9_winnerOf_19 ⟨Nat.le_of_ble_eq_true rfl, Nat.le_of_ble_eq_true rfl⟩ (fun u7 hu7 => ?_)
    refine hv_eqst (st' := [.int (zI (ox_w g)), .int (zI ((g 7) - (g 6)))]) rfl ?_
    refine hv_weq (ws' := [(m9, .inr (7, [.int (zI (rf)), .ref xt, .int (zI (sz)), .ref nw, .ref tr, .ref di, .int (zI (ac)), .ref ke, .ref ik, .ref wt, .int (zI (mz_key g)), .int (zI (sp)), .int (zI (ou))])), (r9, .inl (dA 0, 12, .inl (fun i => zI (g i)))), (wt, .inl (dA 0, 4096, .inl (fun i => zI (u7 i))))]) (rfl) ?_
    refine hv_iadd C dX9_winnerOf_22 (zI_add _ _) ?_
    refine hv_topi (y := zI (ox_ahead g)) (by exact zI_c (by unfold ox_ahead; first | (rw [if_pos e3]; done) | (rw [if_neg (by omega)]; done) | (rw [if_pos e3]; rfl) | (rw [if_neg (by omega)]; rfl))) ?_
    refine hv_istore_n C dX9_winnerOf_23 (lw := [(3, .int (zI (ox_ahead g))), (2, .int (zI (g 3))), (0, .ref m9), (1, .ref r9)]) (by decide) rfl ?_
    refine hv_iload_n C dX9_winnerOf_24 0 rfl ?_
    refine hv_if_le C dX9_winnerOf_25 (tgt := 32) (by decide) (P := zI (ox_ahead g) ≤ 0) Iff.rfl (fun hc25 => ?_) (fun hc25 => ?_)
    · refine hv_iload_n C dX9_winnerOf_32 0 rfl ?_
      refine hv_if_ge C dX9_winnerOf_33 (tgt := 42) (by decide) (P := 0 ≤ zI (ox_ahead g)) Iff.rfl (fun hc33 => ?_) (fun hc33 => ?_)
      · refine hv_iconst C dX9_winnerOf_42 (v := zI (2)) rfl ?_
        exact hv_iret C M dX9_winnerOf_43 rfl rfl u7 hu7 (hv_rv (by unfold ox_win; rw [if_pos (mz_w0 hc25 hc33)])) [] (List.Perm.of_eq (by first | rfl | exact (List.append_nil _).symm)) (Nat.le_refl _) (Nat.le_refl _)
      · refine hv_iconst C dX9_winnerOf_36 (v := zI (1)) rfl ?_
        refine hv_iload_n C dX9_winnerOf_37 1 rfl ?_
        refine hv_isub C dX9_winnerOf_38 (zI_sub _ _) ?_
        refine hv_goto C dX9_winnerOf_39 (tgt := 43) (by decide) ?_
        exact hv_iret C M dX9_winnerOf_43 rfl rfl u7 hu7 (hv_rv (by unfold ox_win; rw [if_neg (fun q => hc33 (mz_we2 q)), if_neg (fun q => mz_wl hc25 q)])) [] (List.Perm.of_eq (by first | rfl | exact (List.append_nil _).symm)) (Nat.le_refl _) (Nat.le_refl _)
    · refine hv_iload_n C dX9_winnerOf_28 1 rfl ?_
      refine hv_goto C dX9_winnerOf_29 (tgt := 43) (by decide) ?_
      exact hv_iret C M dX9_winnerOf_43 rfl rfl u7 hu7 (hv_rv (by unfold ox_win; rw [if_neg (fun q => hc25 (mz_we q)), if_pos (mz_wg hc25)])) [] (List.Perm.of_eq (by first | rfl | exact (List.append_nil _).symm)) (Nat.le_refl _) (Nat.le_refl _)
  · refine hv_aload_n C dX9_winnerOf_0 1 rfl ?_
    refine hv_iconst C dX9_winnerOf_1 (v := zI (3)) rfl ?_
    refine hv_iald C dX9_winnerOf_2 1 rfl (3) (rfl) (by omega) (by omega) (v := (zI (g 3))) rfl ?_
    refine hv_istore_n C dX9_winnerOf_3 (lw := [(2, .int (zI (g 3))), (0, .ref m9), (1, .ref r9)]) (by decide) rfl ?_
    refine hv_aload_n C dX9_winnerOf_4 2 rfl ?_
    refine hv_bipush C dX9_winnerOf_5 (v := zI (7)) (by decide +kernel) ?_
    refine hv_iload_n C dX9_winnerOf_7 0 rfl ?_
    refine hv_isub C dX9_winnerOf_8 (zI_sub _ _) ?_
    refine hv_iald C dX9_winnerOf_9 1 rfl (6) (zI_ix (by omega)) (by omega) (by omega) (v := (zI (g 6))) rfl ?_
    refine hv_aload_n C dX9_winnerOf_10 2 rfl ?_
    refine hv_bipush C dX9_winnerOf_11 (v := zI (6)) (by decide +kernel) ?_
    refine hv_iload_n C dX9_winnerOf_13 0 rfl ?_
    refine hv_iadd C dX9_winnerOf_14 (zI_add _ _) ?_
    refine hv_iald C dX9_winnerOf_15 1 rfl (7) (zI_ix (by omega)) (by omega) (by omega) (v := (zI (g 7))) rfl ?_
    refine hv_isub C dX9_winnerOf_16 (zI_sub _ _) ?_
    refine hv_aload_n C dX9_winnerOf_17 1 rfl ?_
    refine hv_aload_n C dX9_winnerOf_18 2 rfl ?_
    refine hv_callV (As := [.ref r9]) (rest := [.int (zI ((g 6) - (g 7)))]) (wc := [(m9, .inr (7, [.int (zI (rf)), .ref xt, .int (zI (sz)), .ref nw, .ref tr, .ref di, .int (zI (ac)), .ref ke, .ref ik, .ref wt, .int (zI (ld)), .int (zI (sp)), .int (zI (ou))])), (r9, .inl (dA 0, 12, .inl (fun i => zI (g i)))), (wt, .inl (dA 0, 4096, .inl (fun i => zI (wv i))))]) (wr := []) C (k_X9_worthOf l D dA m9 xt nw tr di ke ik wt rf sz ac ld sp ou r9 g hg wv hl) (cwV 1 C.1.2.2.2.2 (hw_V tw_m_RX9_114 tw_i_X9_worthOf tw_s_X9_worthOf tw_n_RX9 tw_k_X9_worthOf) rfl rfl rfl (by decide +kernel) ⟨Nat.le_of_ble_eq_true rfl, Nat.le_of_ble_eq_true rfl⟩) (hv_pm [0, 0, 0] rfl) rfl 0 7 rfl rfl rfl (Nat.le_of_ble_eq_true rfl) dX9_winnerOf_19 ⟨Nat.le_of_ble_eq_true rfl, Nat.le_of_ble_eq_true rfl⟩ (fun u7 hu7 => ?_)
    refine hv_eqst (st' := [.int (zI (ox_w g)), .int (zI ((g 6) - (g 7)))]) rfl ?_
    refine hv_weq (ws' := [(m9, .inr (7, [.int (zI (rf)), .ref xt, .int (zI (sz)), .ref nw, .ref tr, .ref di, .int (zI (ac)), .ref ke, .ref ik, .ref wt, .int (zI (mz_key g)), .int (zI (sp)), .int (zI (ou))])), (r9, .inl (dA 0, 12, .inl (fun i => zI (g i)))), (wt, .inl (dA 0, 4096, .inl (fun i => zI (u7 i))))]) (rfl) ?_
    refine hv_iadd C dX9_winnerOf_22 (zI_add _ _) ?_
    refine hv_topi (y := zI (ox_ahead g)) (by exact zI_c (by unfold ox_ahead; first | (rw [if_pos e3]; done) | (rw [if_neg (by omega)]; done) | (rw [if_pos e3]; rfl) | (rw [if_neg (by omega)]; rfl))) ?_
    refine hv_istore_n C dX9_winnerOf_23 (lw := [(3, .int (zI (ox_ahead g))), (2, .int (zI (g 3))), (0, .ref m9), (1, .ref r9)]) (by decide) rfl ?_
    refine hv_iload_n C dX9_winnerOf_24 0 rfl ?_
    refine hv_if_le C dX9_winnerOf_25 (tgt := 32) (by decide) (P := zI (ox_ahead g) ≤ 0) Iff.rfl (fun hc25 => ?_) (fun hc25 => ?_)
    · refine hv_iload_n C dX9_winnerOf_32 0 rfl ?_
      refine hv_if_ge C dX9_winnerOf_33 (tgt := 42) (by decide) (P := 0 ≤ zI (ox_ahead g)) Iff.rfl (fun hc33 => ?_) (fun hc33 => ?_)
      · refine hv_iconst C dX9_winnerOf_42 (v := zI (2)) rfl ?_
        exact hv_iret C M dX9_winnerOf_43 rfl rfl u7 hu7 (hv_rv (by unfold ox_win; rw [if_pos (mz_w0 hc25 hc33)])) [] (List.Perm.of_eq (by first | rfl | exact (List.append_nil _).symm)) (Nat.le_refl _) (Nat.le_refl _)
      · refine hv_iconst C dX9_winnerOf_36 (v := zI (1)) rfl ?_
        refine hv_iload_n C dX9_winnerOf_37 1 rfl ?_
        refine hv_isub C dX9_winnerOf_38 (zI_sub _ _) ?_
        refine hv_goto C dX9_winnerOf_39 (tgt := 43) (by decide) ?_
        exact hv_iret C M dX9_winnerOf_43 rfl rfl u7 hu7 (hv_rv (by unfold ox_win; rw [if_neg (fun q => hc33 (mz_we2 q)), if_neg (fun q => mz_wl hc25 q)])) [] (List.Perm.of_eq (by first | rfl | exact (List.append_nil _).symm)) (Nat.le_refl _) (Nat.le_refl _)
    · refine hv_iload_n C dX9_winnerOf_28 1 rfl ?_
      refine hv_goto C dX9_winnerOf_29 (tgt := 43) (by decide) ?_
      exact hv_iret C M dX9_winnerOf_43 rfl rfl u7 hu7 (hv_rv (by unfold ox_win; rw [if_neg (fun q => hc25 (mz_we q)), if_pos (mz_wg hc25)])) [] (List.Perm.of_eq (by first | rfl | exact (List.append_nil _).symm)) (Nat.le_refl _) (Nat.le_refl _)
