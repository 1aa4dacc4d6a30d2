/-! the law's own methods: what the class answers, or which exception -/
theorem hy_sw {x : Nat × va_E} {w : va_W} : (x :: w).Perm (w ++ [x]) := List.perm_append_comm (l₁ := [x])
theorem hy_sw3 {x : Nat × va_E} {w : va_W} : (w ++ [x]).Perm ((x :: w) ++ []) := by rw [List.append_nil]; exact hy_sw.symm

theorem tw_k_L_append : Cond.codeWith yL_append cL_append 4 (some .int) [(0, 9, 12, 13), (0, 9, 15, 15)] ∈ hw_T := hw_in 378 (by decide +kernel) (by decide +kernel)

theorem tw_k_L_load : Cond.codeWith yL_load cL_load 3 (some .int) [(0, 8, 11, 15)] ∈ hw_T := hw_in 474 (by decide +kernel) (by decide +kernel)

theorem tw_k_L_about : Cond.codeWith yL_about cL_about 4 (some .int) [(0, 9, 12, 13)] ∈ hw_T := hw_in 558 (by decide +kernel) (by decide +kernel)

theorem tw_k_L_leaves : Cond.codeWith yL_leaves cL_leaves 4 (some .int) [(0, 9, 12, 27)] ∈ hw_T := hw_in 581 (by decide +kernel) (by decide +kernel)

theorem tw_k_L_gardener : Cond.codeWith yL_gardener cL_gardener 5 (some .int) [(0, 10, 13, 27), (0, 10, 17, 13)] ∈ hw_T := hw_in 611 (by decide +kernel) (by decide +kernel)

theorem tw_k_L_setting : Cond.codeWith yL_setting cL_setting 4 (some .int) [(0, 9, 12, 13)] ∈ hw_T := hw_in 622 (by decide +kernel) (by decide +kernel)

theorem tw_k_L_plant : Cond.codeWith yL_plant cL_plant 5 (some .int) [(0, 10, 13, 13)] ∈ hw_T := hw_in 633 (by decide +kernel) (by decide +kernel)

theorem tw_k_L_clip : Cond.codeWith yL_clip cL_clip 6 (some .int) [(0, 12, 15, 27), (0, 12, 19, 13), (0, 12, 23, 15)] ∈ hw_T := hw_in 644 (by decide +kernel) (by decide +kernel)

theorem tw_k_L_water : Cond.codeWith yL_water cL_water 4 (some .int) [(0, 9, 12, 27), (0, 9, 15, 15)] ∈ hw_T := hw_in 660 (by decide +kernel) (by decide +kernel)

theorem tw_k_L_wind : Cond.codeWith yL_wind cL_wind 4 (some .int) [(0, 9, 12, 13)] ∈ hw_T := hw_in 668 (by decide +kernel) (by decide +kernel)

theorem tw_k_L_set : Cond.codeWith yL_set cL_set 5 (some .int) [(0, 10, 13, 13)] ∈ hw_T := hw_in 677 (by decide +kernel) (by decide +kernel)

theorem tw_k_L_undo : Cond.codeWith yL_undo cL_undo 3 (some .int) [(0, 8, 11, 15)] ∈ hw_T := hw_in 685 (by decide +kernel) (by decide +kernel)

theorem tw_k_L_ifClipped : Cond.codeWith yL_ifClipped cL_ifClipped 7 (some .int) [(0, 14, 17, 27), (0, 14, 21, 13)] ∈ hw_T := hw_in 697 (by decide +kernel) (by decide +kernel)

theorem tw_k_L_goesOn : Cond.codeWith yL_goesOn cL_goesOn 5 (some .int) [(0, 10, 13, 13)] ∈ hw_T := hw_in 707 (by decide +kernel) (by decide +kernel)

theorem tw_k_L_runScript : Cond.codeWith yL_runScript cL_runScript 6 (some .int) [(0, 11, 14, 13)] ∈ hw_T := hw_in 720 (by decide +kernel) (by decide +kernel)

theorem tw_k_L_simulate : Cond.codeWith yL_simulate cL_simulate 6 (some .int) [(0, 11, 14, 13)] ∈ hw_T := hw_in 738 (by decide +kernel) (by decide +kernel)

theorem tw_k_L_save : Cond.codeWith yL_save cL_save 4 (some .int) [(0, 9, 12, 27)] ∈ hw_T := hw_in 757 (by decide +kernel) (by decide +kernel)

theorem tw_k_L_restore : Cond.codeWith yL_restore cL_restore 4 (some .int) [(0, 9, 12, 27), (0, 9, 15, 15)] ∈ hw_T := hw_in 765 (by decide +kernel) (by decide +kernel)

set_option maxHeartbeats 4000000 in
set_option maxRecDepth 100000 in
theorem k_L_append (l : Launch) (D : va_G) (dA : Nat → ClassId) (sa : Nat → Nat) (hst : l.stackTraces = false) {S : Type} {wc : va_W} {mc ms : Nat} {rv : S → Option Value} {post : S → Prop} {w1 : S → va_W} {PX : String → Prop} {fs : List Value} (xx o9 : Nat) (z : Int) (f : Nat → Int64) (a9 : S → Int) (hM : hx_Ct l yX8_append (hw_W yX8_append cX8_append 2 (some .int)) 44 D dA sa [.ref xx, .int (zI (z))] wc mc ms rv post w1 PX) (hrv : ∀ u, rv u = some (.int (zI (a9 u)))) (hq : wc[0]? = some (xx, .inr (6, fs))) (hPX : ∀ E, PX E → E = hx_IAE ∨ E = hx_ISE) : hy_Ct l yL_append (hw_H yL_append cL_append 4 (some .int) [(0, 9, 12, 13), (0, 9, 15, 15)]) 45 D dA sa [.ref xx, .int (zI (z)), .ref o9] ((o9, .inl (dA 4, 1, .inr (.inl f))) :: wc) mc ms (S := S ⊕ String) (Sum.elim (fun _ => some (.int (zI 0))) (fun E => some (.int (zI (mz_k2 hx_IAE (some E)))))) (Sum.elim post PX) (Sum.elim (fun u => (o9, .inl (dA 4, 1, .inr (.inl (vp_updL f 0 (zI (a9 u)).toInt64)))) :: w1 u) (fun _ => (o9, .inl (dA 4, 1, .inr (.inl f))) :: wc)) := by
  refine hy_of (own := RL) (cc := cL_append) (maxL := 4) (ret := some .int) (hh := [(0, 9, 12, 13), (0, 9, 15, 15)]) tw_k_X8_append hst rfl rfl (by decide) (Nat.le_of_ble_eq_true rfl) ?_
  intro p e s m args below meth c C X M
  refine hv_lveq (lv' := [(0, .ref xx), (1, .int (zI (z))), (2, .ref o9)]) rfl ?_
  refine hv_aload_n C dL_append_0 2 rfl ?_
  refine hv_iconst C dL_append_1 (v := zI (0)) rfl ?_
  refine hv_aload_n C dL_append_2 0 rfl ?_
  refine hv_iload_n C dL_append_3 1 rfl ?_
  refine hy_callV (As := [.int (zI (z))]) (rest := [.int (zI (0)), .ref o9]) (wc := wc) (wr := [(o9, .inl (dA 4, 1, .inr (.inl f)))]) C X hM (cwV 1 C.1.2.2.2.2 (hw_V tw_m_RL_7 tw_i_X8_append tw_s_X8_append tw_n_RX8 tw_k_X8_append) rfl rfl rfl (by decide +kernel) ⟨Nat.le_of_ble_eq_true rfl, Nat.le_of_ble_eq_true rfl⟩) hy_sw rfl 0 6 hq rfl rfl (Nat.le_of_ble_eq_true rfl) dL_append_4 ⟨Nat.le_of_eq (Nat.zero_add _), Nat.le_of_eq (Nat.zero_add _)⟩ (fun E q9 hE => ?_) (fun u hu => ?_)
  · rcases hPX E hE with e9 | e9
    · subst e9
      refine hy_h C X (by decide +kernel) [] ⟨0, 9, 12, 13⟩ [⟨0, 9, 15, 15⟩] rfl (fun z hz => absurd hz List.not_mem_nil) (by decide) (by decide) (hw_c tw_c_RL_13) ?_
      refine hv_astore_n C dL_append_12 (lw := [(3, .ref q9), (0, .ref xx), (1, .int (zI (z))), (2, .ref o9)]) (by decide) rfl ?_
      refine hv_iconst C dL_append_13 (v := zI (1)) rfl ?_
      exact hv_iret C M dL_append_14 rfl rfl (Sum.inr hx_IAE) hE (show some (Value.int (zI (mz_k2 hx_IAE (some hx_IAE)))) = some (Value.int (zI (1))) from congrArg (fun q => some (Value.int (zI q))) mz_k2a) [] hy_sw3 (Nat.le_of_eq (Nat.zero_add _)) (Nat.le_of_eq (Nat.zero_add _))
    · subst e9
      refine hy_h C X (by decide +kernel) [⟨0, 9, 12, 13⟩] ⟨0, 9, 15, 15⟩ [] rfl (fun z hz => by simp only [List.mem_cons, List.not_mem_nil, or_false] at hz; subst hz; exact ⟨hx_IAE, by decide +kernel, hx_21, by decide, hw_c tw_c_RL_13⟩) (by decide) (by decide) (hw_c tw_c_RL_15) ?_
      refine hv_astore_n C dL_append_15 (lw := [(3, .ref q9), (0, .ref xx), (1, .int (zI (z))), (2, .ref o9)]) (by decide) rfl ?_
      refine hv_iconst C dL_append_16 (v := zI (2)) rfl ?_
      exact hv_iret C M dL_append_17 rfl rfl (Sum.inr hx_ISE) hE (show some (Value.int (zI (mz_k2 hx_IAE (some hx_ISE)))) = some (Value.int (zI (2))) from congrArg (fun q => some (Value.int (zI q))) (mz_k2b hx_21)) [] hy_sw3 (Nat.le_of_eq (Nat.zero_add _)) (Nat.le_of_eq (Nat.zero_add _))
  · refine hv_perm (ws' := (o9, .inl (dA 4, 1, .inr (.inl f))) :: w1 u) hy_sw.symm ?_
    refine hv_eqst (st' := [.int (zI (a9 u)), .int (zI (0)), .ref o9]) (by rw [hrv]; rfl) ?_
    refine hv_i2l C dL_append_7 (v := (zI (a9 u)).toInt64) rfl ?_
    refine hv_last C dL_append_8 0 rfl 0 rfl (by decide) (by decide) ?_
    refine hv_weq (ws' := (o9, .inl (dA 4, 1, .inr (.inl (vp_updL f 0 (zI (a9 u)).toInt64)))) :: w1 u) rfl ?_
    refine hv_goto C dL_append_9 (tgt := 18) (by decide) ?_
    refine hv_iconst C dL_append_18 (v := zI (0)) rfl ?_
    exact hv_iret C M dL_append_19 rfl rfl (Sum.inl u) hu rfl [] (List.Perm.of_eq (List.append_nil _).symm) (Nat.le_of_eq (Nat.zero_add _)) (Nat.le_of_eq (Nat.zero_add _))

set_option maxHeartbeats 4000000 in
set_option maxRecDepth 100000 in
theorem k_L_load (l : Launch) (D : va_G) (dA : Nat → ClassId) (sa : Nat → Nat) (hst : l.stackTraces = false) {S : Type} {wc : va_W} {mc ms : Nat} {rv : S → Option Value} {post : S → Prop} {w1 : S → va_W} {PX : String → Prop} {fs : List Value} (xx o9 : Nat) (f : Nat → Int64) (a9 : S → Int) (hM : hx_Ct l yX8_load (hw_W yX8_load cX8_load 3 (some .int)) 44 D dA sa [.ref xx] wc mc ms rv post w1 PX) (hrv : ∀ u, rv u = some (.int (zI (a9 u)))) (hq : wc[0]? = some (xx, .inr (6, fs))) (hPX : ∀ E, PX E → E = hx_ISE) : hy_Ct l yL_load (hw_H yL_load cL_load 3 (some .int) [(0, 8, 11, 15)]) 45 D dA sa [.ref xx, .ref o9] ((o9, .inl (dA 4, 1, .inr (.inl f))) :: wc) mc ms (S := S ⊕ String) (Sum.elim (fun _ => some (.int (zI 0))) (fun E => some (.int (zI (mz_k1 (some E)))))) (Sum.elim post PX) (Sum.elim (fun u => (o9, .inl (dA 4, 1, .inr (.inl (vp_updL f 0 (zI (a9 u)).toInt64)))) :: w1 u) (fun _ => (o9, .inl (dA 4, 1, .inr (.inl f))) :: wc)) := by
  refine hy_of (own := RL) (cc := cL_load) (maxL := 3) (ret := some .int) (hh := [(0, 8, 11, 15)]) tw_k_X8_load hst rfl rfl (by decide) (Nat.le_of_ble_eq_true rfl) ?_
  intro p e s m args below meth c C X M
  refine hv_lveq (lv' := [(0, .ref xx), (1, .ref o9)]) rfl ?_
  refine hv_aload_n C dL_load_0 1 rfl ?_
  refine hv_iconst C dL_load_1 (v := zI (0)) rfl ?_
  refine hv_aload_n C dL_load_2 0 rfl ?_
  refine hy_callV (As := []) (rest := [.int (zI (0)), .ref o9]) (wc := wc) (wr := [(o9, .inl (dA 4, 1, .inr (.inl f)))]) C X hM (cwV 0 C.1.2.2.2.2 (hw_V tw_m_RL_17 tw_i_X8_load tw_s_X8_load tw_n_RX8 tw_k_X8_load) rfl rfl rfl (by decide +kernel) ⟨Nat.le_of_ble_eq_true rfl, Nat.le_of_ble_eq_true rfl⟩) hy_sw rfl 0 6 hq rfl rfl (Nat.le_of_ble_eq_true rfl) dL_load_3 ⟨Nat.le_of_eq (Nat.zero_add _), Nat.le_of_eq (Nat.zero_add _)⟩ (fun E q9 hE => ?_) (fun u hu => ?_)
  · have e9 := hPX E hE
    subst e9
    refine hy_h C X (by decide +kernel) [] ⟨0, 8, 11, 15⟩ [] rfl (fun z hz => absurd hz List.not_mem_nil) (by decide) (by decide) (hw_c tw_c_RL_15) ?_
    refine hv_astore_n C dL_load_11 (lw := [(2, .ref q9), (0, .ref xx), (1, .ref o9)]) (by decide) rfl ?_
    refine hv_iconst C dL_load_12 (v := zI (1)) rfl ?_
    exact hv_iret C M dL_load_13 rfl rfl (Sum.inr hx_ISE) hE (show some (Value.int (zI (mz_k1 (some hx_ISE)))) = some (Value.int (zI (1))) from congrArg (fun q => some (Value.int (zI q))) mz_k1s) [] hy_sw3 (Nat.le_of_eq (Nat.zero_add _)) (Nat.le_of_eq (Nat.zero_add _))
  · refine hv_perm (ws' := (o9, .inl (dA 4, 1, .inr (.inl f))) :: w1 u) hy_sw.symm ?_
    refine hv_eqst (st' := [.int (zI (a9 u)), .int (zI (0)), .ref o9]) (by rw [hrv]; rfl) ?_
    refine hv_i2l C dL_load_6 (v := (zI (a9 u)).toInt64) rfl ?_
    refine hv_last C dL_load_7 0 rfl 0 rfl (by decide) (by decide) ?_
    refine hv_weq (ws' := (o9, .inl (dA 4, 1, .inr (.inl (vp_updL f 0 (zI (a9 u)).toInt64)))) :: w1 u) rfl ?_
    refine hv_goto C dL_load_8 (tgt := 14) (by decide) ?_
    refine hv_iconst C dL_load_14 (v := zI (0)) rfl ?_
    exact hv_iret C M dL_load_15 rfl rfl (Sum.inl u) hu rfl [] (List.Perm.of_eq (List.append_nil _).symm) (Nat.le_of_eq (Nat.zero_add _)) (Nat.le_of_eq (Nat.zero_add _))

set_option maxHeartbeats 4000000 in
set_option maxRecDepth 100000 in
theorem k_L_about (l : Launch) (D : va_G) (dA : Nat → ClassId) (sa : Nat → Nat) (hst : l.stackTraces = false) {S : Type} {wc : va_W} {mc ms : Nat} {rv : S → Option Value} {post : S → Prop} {w1 : S → va_W} {PX : String → Prop} {fs : List Value} (xx o9 : Nat) (z : Int) (f : Nat → Int64) (a9 : S → Int) (hM : hx_Ct l yX8_about (hw_W yX8_about cX8_about 2 (some .int)) 44 D dA sa [.ref xx, .int (zI (z))] wc mc ms rv post w1 PX) (hrv : ∀ u, rv u = some (.int (zI (a9 u)))) (hq : wc[0]? = some (xx, .inr (6, fs))) (hPX : ∀ E, PX E → E = hx_IAE) : hy_Ct l yL_about (hw_H yL_about cL_about 4 (some .int) [(0, 9, 12, 13)]) 45 D dA sa [.ref xx, .int (zI (z)), .ref o9] ((o9, .inl (dA 4, 1, .inr (.inl f))) :: wc) mc ms (S := S ⊕ String) (Sum.elim (fun _ => some (.int (zI 0))) (fun E => some (.int (zI (mz_k1 (some E)))))) (Sum.elim post PX) (Sum.elim (fun u => (o9, .inl (dA 4, 1, .inr (.inl (vp_updL f 0 (zI (a9 u)).toInt64)))) :: w1 u) (fun _ => (o9, .inl (dA 4, 1, .inr (.inl f))) :: wc)) := by
  refine hy_of (own := RL) (cc := cL_about) (maxL := 4) (ret := some .int) (hh := [(0, 9, 12, 13)]) tw_k_X8_about hst rfl rfl (by decide) (Nat.le_of_ble_eq_true rfl) ?_
  intro p e s m args below meth c C X M
  refine hv_lveq (lv' := [(0, .ref xx), (1, .int (zI (z))), (2, .ref o9)]) rfl ?_
  refine hv_aload_n C dL_about_0 2 rfl ?_
  refine hv_iconst C dL_about_1 (v := zI (0)) rfl ?_
  refine hv_aload_n C dL_about_2 0 rfl ?_
  refine hv_iload_n C dL_about_3 1 rfl ?_
  refine hy_callV (As := [.int (zI (z))]) (rest := [.int (zI (0)), .ref o9]) (wc := wc) (wr := [(o9, .inl (dA 4, 1, .inr (.inl f)))]) C X hM (cwV 1 C.1.2.2.2.2 (hw_V tw_m_RL_21 tw_i_X8_about tw_s_X8_about tw_n_RX8 tw_k_X8_about) rfl rfl rfl (by decide +kernel) ⟨Nat.le_of_ble_eq_true rfl, Nat.le_of_ble_eq_true rfl⟩) hy_sw rfl 0 6 hq rfl rfl (Nat.le_of_ble_eq_true rfl) dL_about_4 ⟨Nat.le_of_eq (Nat.zero_add _), Nat.le_of_eq (Nat.zero_add _)⟩ (fun E q9 hE => ?_) (fun u hu => ?_)
  · have e9 := hPX E hE
    subst e9
    refine hy_h C X (by decide +kernel) [] ⟨0, 9, 12, 13⟩ [] rfl (fun z hz => absurd hz List.not_mem_nil) (by decide) (by decide) (hw_c tw_c_RL_13) ?_
    refine hv_astore_n C dL_about_12 (lw := [(3, .ref q9), (0, .ref xx), (1, .int (zI (z))), (2, .ref o9)]) (by decide) rfl ?_
    refine hv_iconst C dL_about_13 (v := zI (1)) rfl ?_
    exact hv_iret C M dL_about_14 rfl rfl (Sum.inr hx_IAE) hE (show some (Value.int (zI (mz_k1 (some hx_IAE)))) = some (Value.int (zI (1))) from congrArg (fun q => some (Value.int (zI q))) mz_k1s) [] hy_sw3 (Nat.le_of_eq (Nat.zero_add _)) (Nat.le_of_eq (Nat.zero_add _))
  · refine hv_perm (ws' := (o9, .inl (dA 4, 1, .inr (.inl f))) :: w1 u) hy_sw.symm ?_
    refine hv_eqst (st' := [.int (zI (a9 u)), .int (zI (0)), .ref o9]) (by rw [hrv]; rfl) ?_
    refine hv_i2l C dL_about_7 (v := (zI (a9 u)).toInt64) rfl ?_
    refine hv_last C dL_about_8 0 rfl 0 rfl (by decide) (by decide) ?_
    refine hv_weq (ws' := (o9, .inl (dA 4, 1, .inr (.inl (vp_updL f 0 (zI (a9 u)).toInt64)))) :: w1 u) rfl ?_
    refine hv_goto C dL_about_9 (tgt := 15) (by decide) ?_
    refine hv_iconst C dL_about_15 (v := zI (0)) rfl ?_
    exact hv_iret C M dL_about_16 rfl rfl (Sum.inl u) hu rfl [] (List.Perm.of_eq (List.append_nil _).symm) (Nat.le_of_eq (Nat.zero_add _)) (Nat.le_of_eq (Nat.zero_add _))

set_option maxHeartbeats 4000000 in
set_option maxRecDepth 100000 in
theorem k_L_leaves (l : Launch) (D : va_G) (dA : Nat → ClassId) (sa : Nat → Nat) (hst : l.stackTraces = false) {S : Type} {wc : va_W} {mc ms : Nat} {rv : S → Option Value} {post : S → Prop} {w1 : S → va_W} {PX : String → Prop} {fs : List Value} (xx o9 : Nat) (z : Int) (f : Nat → Int64) (a9 : S → Int) (hM : hx_Ct l yX8_leaves (hw_W yX8_leaves cX8_leaves 2 (some .int)) 44 D dA sa [.ref xx, .int (zI (z))] wc mc ms rv post w1 PX) (hrv : ∀ u, rv u = some (.int (zI (a9 u)))) (hq : wc[0]? = some (xx, .inr (6, fs))) (hPX : ∀ E, PX E → E = hx_IOE) : hy_Ct l yL_leaves (hw_H yL_leaves cL_leaves 4 (some .int) [(0, 9, 12, 27)]) 45 D dA sa [.ref xx, .int (zI (z)), .ref o9] ((o9, .inl (dA 4, 1, .inr (.inl f))) :: wc) mc ms (S := S ⊕ String) (Sum.elim (fun _ => some (.int (zI 0))) (fun E => some (.int (zI (mz_k1 (some E)))))) (Sum.elim post PX) (Sum.elim (fun u => (o9, .inl (dA 4, 1, .inr (.inl (vp_updL f 0 (zI (a9 u)).toInt64)))) :: w1 u) (fun _ => (o9, .inl (dA 4, 1, .inr (.inl f))) :: wc)) := by
  refine hy_of (own := RL) (cc := cL_leaves) (maxL := 4) (ret := some .int) (hh := [(0, 9, 12, 27)]) tw_k_X8_leaves hst rfl rfl (by decide) (Nat.le_of_ble_eq_true rfl) ?_
  intro p e s m args below meth c C X M
  refine hv_lveq (lv' := [(0, .ref xx), (1, .int (zI (z))), (2, .ref o9)]) rfl ?_
  refine hv_aload_n C dL_leaves_0 2 rfl ?_
  refine hv_iconst C dL_leaves_1 (v := zI (0)) rfl ?_
  refine hv_aload_n C dL_leaves_2 0 rfl ?_
  refine hv_iload_n C dL_leaves_3 1 rfl ?_
  refine hy_callV (As := [.int (zI (z))]) (rest := [.int (zI (0)), .ref o9]) (wc := wc) (wr := [(o9, .inl (dA 4, 1, .inr (.inl f)))]) C X hM (cwV 1 C.1.2.2.2.2 (hw_V tw_m_RL_24 tw_i_X8_leaves tw_s_X8_leaves tw_n_RX8 tw_k_X8_leaves) rfl rfl rfl (by decide +kernel) ⟨Nat.le_of_ble_eq_true rfl, Nat.le_of_ble_eq_true rfl⟩) hy_sw rfl 0 6 hq rfl rfl (Nat.le_of_ble_eq_true rfl) dL_leaves_4 ⟨Nat.le_of_eq (Nat.zero_add _), Nat.le_of_eq (Nat.zero_add _)⟩ (fun E q9 hE => ?_) (fun u hu => ?_)
  · have e9 := hPX E hE
    subst e9
    refine hy_h C X (by decide +kernel) [] ⟨0, 9, 12, 27⟩ [] rfl (fun z hz => absurd hz List.not_mem_nil) (by decide) (by decide) (hw_c tw_c_RL_27) ?_
    refine hv_astore_n C dL_leaves_12 (lw := [(3, .ref q9), (0, .ref xx), (1, .int (zI (z))), (2, .ref o9)]) (by decide) rfl ?_
    refine hv_iconst C dL_leaves_13 (v := zI (1)) rfl ?_
    exact hv_iret C M dL_leaves_14 rfl rfl (Sum.inr hx_IOE) hE (show some (Value.int (zI (mz_k1 (some hx_IOE)))) = some (Value.int (zI (1))) from congrArg (fun q => some (Value.int (zI q))) mz_k1s) [] hy_sw3 (Nat.le_of_eq (Nat.zero_add _)) (Nat.le_of_eq (Nat.zero_add _))
  · refine hv_perm (ws' := (o9, .inl (dA 4, 1, .inr (.inl f))) :: w1 u) hy_sw.symm ?_
    refine hv_eqst (st' := [.int (zI (a9 u)), .int (zI (0)), .ref o9]) (by rw [hrv]; rfl) ?_
    refine hv_i2l C dL_leaves_7 (v := (zI (a9 u)).toInt64) rfl ?_
    refine hv_last C dL_leaves_8 0 rfl 0 rfl (by decide) (by decide) ?_
    refine hv_weq (ws' := (o9, .inl (dA 4, 1, .inr (.inl (vp_updL f 0 (zI (a9 u)).toInt64)))) :: w1 u) rfl ?_
    refine hv_goto C dL_leaves_9 (tgt := 15) (by decide) ?_
    refine hv_iconst C dL_leaves_15 (v := zI (0)) rfl ?_
    exact hv_iret C M dL_leaves_16 rfl rfl (Sum.inl u) hu rfl [] (List.Perm.of_eq (List.append_nil _).symm) (Nat.le_of_eq (Nat.zero_add _)) (Nat.le_of_eq (Nat.zero_add _))

set_option maxHeartbeats 4000000 in
set_option maxRecDepth 100000 in
theorem k_L_gardener (l : Launch) (D : va_G) (dA : Nat → ClassId) (sa : Nat → Nat) (hst : l.stackTraces = false) {S : Type} {wc : va_W} {mc ms : Nat} {rv : S → Option Value} {post : S → Prop} {w1 : S → va_W} {PX : String → Prop} {fs : List Value} (xx o9 : Nat) (a : Int) (b : Int) (f : Nat → Int64) (a9 : S → Int) (hM : hx_Ct l yX8_gardener (hw_W yX8_gardener cX8_gardener 3 (some .int)) 44 D dA sa [.ref xx, .int (zI (a)), .int (zI (b))] wc mc ms rv post w1 PX) (hrv : ∀ u, rv u = some (.int (zI (a9 u)))) (hq : wc[0]? = some (xx, .inr (6, fs))) (hPX : ∀ E, PX E → E = hx_IOE ∨ E = hx_IAE) : hy_Ct l yL_gardener (hw_H yL_gardener cL_gardener 5 (some .int) [(0, 10, 13, 27), (0, 10, 17, 13)]) 45 D dA sa [.ref xx, .int (zI (a)), .int (zI (b)), .ref o9] ((o9, .inl (dA 4, 1, .inr (.inl f))) :: wc) mc ms (S := S ⊕ String) (Sum.elim (fun _ => some (.int (zI 0))) (fun E => some (.int (zI (mz_k2 hx_IOE (some E)))))) (Sum.elim post PX) (Sum.elim (fun u => (o9, .inl (dA 4, 1, .inr (.inl (vp_updL f 0 (zI (a9 u)).toInt64)))) :: w1 u) (fun _ => (o9, .inl (dA 4, 1, .inr (.inl f))) :: wc)) := by
  refine hy_of (own := RL) (cc := cL_gardener) (maxL := 5) (ret := some .int) (hh := [(0, 10, 13, 27), (0, 10, 17, 13)]) tw_k_X8_gardener hst rfl rfl (by decide) (Nat.le_of_ble_eq_true rfl) ?_
  intro p e s m args below meth c C X M
  refine hv_lveq (lv' := [(0, .ref xx), (1, .int (zI (a))), (2, .int (zI (b))), (3, .ref o9)]) rfl ?_
  refine hv_aload_n C dL_gardener_0 3 rfl ?_
  refine hv_iconst C dL_gardener_1 (v := zI (0)) rfl ?_
  refine hv_aload_n C dL_gardener_2 0 rfl ?_
  refine hv_iload_n C dL_gardener_3 1 rfl ?_
  refine hv_iload_n C dL_gardener_4 2 rfl ?_
  refine hy_callV (As := [.int (zI (a)), .int (zI (b))]) (rest := [.int (zI (0)), .ref o9]) (wc := wc) (wr := [(o9, .inl (dA 4, 1, .inr (.inl f)))]) C X hM (cwV 2 C.1.2.2.2.2 (hw_V tw_m_RL_29 tw_i_X8_gardener tw_s_X8_gardener tw_n_RX8 tw_k_X8_gardener) rfl rfl rfl (by decide +kernel) ⟨Nat.le_of_ble_eq_true rfl, Nat.le_of_ble_eq_true rfl⟩) hy_sw rfl 0 6 hq rfl rfl (Nat.le_of_ble_eq_true rfl) dL_gardener_5 ⟨Nat.le_of_eq (Nat.zero_add _), Nat.le_of_eq (Nat.zero_add _)⟩ (fun E q9 hE => ?_) (fun u hu => ?_)
  · rcases hPX E hE with e9 | e9
    · subst e9
      refine hy_h C X (by decide +kernel) [] ⟨0, 10, 13, 27⟩ [⟨0, 10, 17, 13⟩] rfl (fun z hz => absurd hz List.not_mem_nil) (by decide) (by decide) (hw_c tw_c_RL_27) ?_
      refine hv_astore C dL_gardener_13 (lw := [(4, .ref q9), (0, .ref xx), (1, .int (zI (a))), (2, .int (zI (b))), (3, .ref o9)]) (by decide) rfl ?_
      refine hv_iconst C dL_gardener_15 (v := zI (1)) rfl ?_
      exact hv_iret C M dL_gardener_16 rfl rfl (Sum.inr hx_IOE) hE (show some (Value.int (zI (mz_k2 hx_IOE (some hx_IOE)))) = some (Value.int (zI (1))) from congrArg (fun q => some (Value.int (zI q))) mz_k2a) [] hy_sw3 (Nat.le_of_eq (Nat.zero_add _)) (Nat.le_of_eq (Nat.zero_add _))
    · subst e9
      refine hy_h C X (by decide +kernel) [⟨0, 10, 13, 27⟩] ⟨0, 10, 17, 13⟩ [] rfl (fun z hz => by simp only [List.mem_cons, List.not_mem_nil, or_false] at hz; subst hz; exact ⟨hx_IOE, by decide +kernel, hx_13, by decide, hw_c tw_c_RL_27⟩) (by decide) (by decide) (hw_c tw_c_RL_13) ?_
      refine hv_astore C dL_gardener_17 (lw := [(4, .ref q9), (0, .ref xx), (1, .int (zI (a))), (2, .int (zI (b))), (3, .ref o9)]) (by decide) rfl ?_
      refine hv_iconst C dL_gardener_19 (v := zI (2)) rfl ?_
      exact hv_iret C M dL_gardener_20 rfl rfl (Sum.inr hx_IAE) hE (show some (Value.int (zI (mz_k2 hx_IOE (some hx_IAE)))) = some (Value.int (zI (2))) from congrArg (fun q => some (Value.int (zI q))) (mz_k2b hx_13)) [] hy_sw3 (Nat.le_of_eq (Nat.zero_add _)) (Nat.le_of_eq (Nat.zero_add _))
  · refine hv_perm (ws' := (o9, .inl (dA 4, 1, .inr (.inl f))) :: w1 u) hy_sw.symm ?_
    refine hv_eqst (st' := [.int (zI (a9 u)), .int (zI (0)), .ref o9]) (by rw [hrv]; rfl) ?_
    refine hv_i2l C dL_gardener_8 (v := (zI (a9 u)).toInt64) rfl ?_
    refine hv_last C dL_gardener_9 0 rfl 0 rfl (by decide) (by decide) ?_
    refine hv_weq (ws' := (o9, .inl (dA 4, 1, .inr (.inl (vp_updL f 0 (zI (a9 u)).toInt64)))) :: w1 u) rfl ?_
    refine hv_goto C dL_gardener_10 (tgt := 21) (by decide) ?_
    refine hv_iconst C dL_gardener_21 (v := zI (0)) rfl ?_
    exact hv_iret C M dL_gardener_22 rfl rfl (Sum.inl u) hu rfl [] (List.Perm.of_eq (List.append_nil _).symm) (Nat.le_of_eq (Nat.zero_add _)) (Nat.le_of_eq (Nat.zero_add _))

set_option maxHeartbeats 4000000 in
set_option maxRecDepth 100000 in
theorem k_L_setting (l : Launch) (D : va_G) (dA : Nat → ClassId) (sa : Nat → Nat) (hst : l.stackTraces = false) {S : Type} {wc : va_W} {mc ms : Nat} {rv : S → Option Value} {post : S → Prop} {w1 : S → va_W} {PX : String → Prop} {fs : List Value} (xx o9 : Nat) (z : Int) (f : Nat → Int64) (a9 : S → Int) (hM : hx_Ct l yX8_setting (hw_W yX8_setting cX8_setting 2 (some .int)) 44 D dA sa [.ref xx, .int (zI (z))] wc mc ms rv post w1 PX) (hrv : ∀ u, rv u = some (.int (zI (a9 u)))) (hq : wc[0]? = some (xx, .inr (6, fs))) (hPX : ∀ E, PX E → E = hx_IAE) : hy_Ct l yL_setting (hw_H yL_setting cL_setting 4 (some .int) [(0, 9, 12, 13)]) 45 D dA sa [.ref xx, .int (zI (z)), .ref o9] ((o9, .inl (dA 4, 1, .inr (.inl f))) :: wc) mc ms (S := S ⊕ String) (Sum.elim (fun _ => some (.int (zI 0))) (fun E => some (.int (zI (mz_k1 (some E)))))) (Sum.elim post PX) (Sum.elim (fun u => (o9, .inl (dA 4, 1, .inr (.inl (vp_updL f 0 (zI (a9 u)).toInt64)))) :: w1 u) (fun _ => (o9, .inl (dA 4, 1, .inr (.inl f))) :: wc)) := by
  refine hy_of (own := RL) (cc := cL_setting) (maxL := 4) (ret := some .int) (hh := [(0, 9, 12, 13)]) tw_k_X8_setting hst rfl rfl (by decide) (Nat.le_of_ble_eq_true rfl) ?_
  intro p e s m args below meth c C X M
  refine hv_lveq (lv' := [(0, .ref xx), (1, .int (zI (z))), (2, .ref o9)]) rfl ?_
  refine hv_aload_n C dL_setting_0 2 rfl ?_
  refine hv_iconst C dL_setting_1 (v := zI (0)) rfl ?_
  refine hv_aload_n C dL_setting_2 0 rfl ?_
  refine hv_iload_n C dL_setting_3 1 rfl ?_
  refine hy_callV (As := [.int (zI (z))]) (rest := [.int (zI (0)), .ref o9]) (wc := wc) (wr := [(o9, .inl (dA 4, 1, .inr (.inl f)))]) C X hM (cwV 1 C.1.2.2.2.2 (hw_V tw_m_RL_33 tw_i_X8_setting tw_s_X8_setting tw_n_RX8 tw_k_X8_setting) rfl rfl rfl (by decide +kernel) ⟨Nat.le_of_ble_eq_true rfl, Nat.le_of_ble_eq_true rfl⟩) hy_sw rfl 0 6 hq rfl rfl (Nat.le_of_ble_eq_true rfl) dL_setting_4 ⟨Nat.le_of_eq (Nat.zero_add _), Nat.le_of_eq (Nat.zero_add _)⟩ (fun E q9 hE => ?_) (fun u hu => ?_)
  · have e9 := hPX E hE
    subst e9
    refine hy_h C X (by decide +kernel) [] ⟨0, 9, 12, 13⟩ [] rfl (fun z hz => absurd hz List.not_mem_nil) (by decide) (by decide) (hw_c tw_c_RL_13) ?_
    refine hv_astore_n C dL_setting_12 (lw := [(3, .ref q9), (0, .ref xx), (1, .int (zI (z))), (2, .ref o9)]) (by decide) rfl ?_
    refine hv_iconst C dL_setting_13 (v := zI (1)) rfl ?_
    exact hv_iret C M dL_setting_14 rfl rfl (Sum.inr hx_IAE) hE (show some (Value.int (zI (mz_k1 (some hx_IAE)))) = some (Value.int (zI (1))) from congrArg (fun q => some (Value.int (zI q))) mz_k1s) [] hy_sw3 (Nat.le_of_eq (Nat.zero_add _)) (Nat.le_of_eq (Nat.zero_add _))
  · refine hv_perm (ws' := (o9, .inl (dA 4, 1, .inr (.inl f))) :: w1 u) hy_sw.symm ?_
    refine hv_eqst (st' := [.int (zI (a9 u)), .int (zI (0)), .ref o9]) (by rw [hrv]; rfl) ?_
    refine hv_i2l C dL_setting_7 (v := (zI (a9 u)).toInt64) rfl ?_
    refine hv_last C dL_setting_8 0 rfl 0 rfl (by decide) (by decide) ?_
    refine hv_weq (ws' := (o9, .inl (dA 4, 1, .inr (.inl (vp_updL f 0 (zI (a9 u)).toInt64)))) :: w1 u) rfl ?_
    refine hv_goto C dL_setting_9 (tgt := 15) (by decide) ?_
    refine hv_iconst C dL_setting_15 (v := zI (0)) rfl ?_
    exact hv_iret C M dL_setting_16 rfl rfl (Sum.inl u) hu rfl [] (List.Perm.of_eq (List.append_nil _).symm) (Nat.le_of_eq (Nat.zero_add _)) (Nat.le_of_eq (Nat.zero_add _))

set_option maxHeartbeats 4000000 in
set_option maxRecDepth 100000 in
theorem k_L_plant (l : Launch) (D : va_G) (dA : Nat → ClassId) (sa : Nat → Nat) (hst : l.stackTraces = false) {S : Type} {wc : va_W} {mc ms : Nat} {rv : S → Option Value} {post : S → Prop} {w1 : S → va_W} {PX : String → Prop} {fs : List Value} (xx o9 : Nat) (a : Int) (b : Int) (f : Nat → Int64) (a9 : S → Int) (hM : hx_Ct l yX8_plant (hw_W yX8_plant cX8_plant 3 (some .int)) 44 D dA sa [.ref xx, .int (zI (a)), .int (zI (b))] wc mc ms rv post w1 PX) (hrv : ∀ u, rv u = some (.int (zI (a9 u)))) (hq : wc[0]? = some (xx, .inr (6, fs))) (hPX : ∀ E, PX E → E = hx_IAE) : hy_Ct l yL_plant (hw_H yL_plant cL_plant 5 (some .int) [(0, 10, 13, 13)]) 45 D dA sa [.ref xx, .int (zI (a)), .int (zI (b)), .ref o9] ((o9, .inl (dA 4, 1, .inr (.inl f))) :: wc) mc ms (S := S ⊕ String) (Sum.elim (fun _ => some (.int (zI 0))) (fun E => some (.int (zI (mz_k1 (some E)))))) (Sum.elim post PX) (Sum.elim (fun u => (o9, .inl (dA 4, 1, .inr (.inl (vp_updL f 0 (zI (a9 u)).toInt64)))) :: w1 u) (fun _ => (o9, .inl (dA 4, 1, .inr (.inl f))) :: wc)) := by
  refine hy_of (own := RL) (cc := cL_plant) (maxL := 5) (ret := some .int) (hh := [(0, 10, 13, 13)]) tw_k_X8_plant hst rfl rfl (by decide) (Nat.le_of_ble_eq_true rfl) ?_
  intro p e s m args below meth c C X M
  refine hv_lveq (lv' := [(0, .ref xx), (1, .int (zI (a))), (2, .int (zI (b))), (3, .ref o9)]) rfl ?_
  refine hv_aload_n C dL_plant_0 3 rfl ?_
  refine hv_iconst C dL_plant_1 (v := zI (0)) rfl ?_
  refine hv_aload_n C dL_plant_2 0 rfl ?_
  refine hv_iload_n C dL_plant_3 1 rfl ?_
  refine hv_iload_n C dL_plant_4 2 rfl ?_
  refine hy_callV (As := [.int (zI (a)), .int (zI (b))]) (rest := [.int (zI (0)), .ref o9]) (wc := wc) (wr := [(o9, .inl (dA 4, 1, .inr (.inl f)))]) C X hM (cwV 2 C.1.2.2.2.2 (hw_V tw_m_RL_36 tw_i_X8_plant tw_s_X8_plant tw_n_RX8 tw_k_X8_plant) rfl rfl rfl (by decide +kernel) ⟨Nat.le_of_ble_eq_true rfl, Nat.le_of_ble_eq_true rfl⟩) hy_sw rfl 0 6 hq rfl rfl (Nat.le_of_ble_eq_true rfl) dL_plant_5 ⟨Nat.le_of_eq (Nat.zero_add _), Nat.le_of_eq (Nat.zero_add _)⟩ (fun E q9 hE => ?_) (fun u hu => ?_)
  · have e9 := hPX E hE
    subst e9
    refine hy_h C X (by decide +kernel) [] ⟨0, 10, 13, 13⟩ [] rfl (fun z hz => absurd hz List.not_mem_nil) (by decide) (by decide) (hw_c tw_c_RL_13) ?_
    refine hv_astore C dL_plant_13 (lw := [(4, .ref q9), (0, .ref xx), (1, .int (zI (a))), (2, .int (zI (b))), (3, .ref o9)]) (by decide) rfl ?_
    refine hv_iconst C dL_plant_15 (v := zI (1)) rfl ?_
    exact hv_iret C M dL_plant_16 rfl rfl (Sum.inr hx_IAE) hE (show some (Value.int (zI (mz_k1 (some hx_IAE)))) = some (Value.int (zI (1))) from congrArg (fun q => some (Value.int (zI q))) mz_k1s) [] hy_sw3 (Nat.le_of_eq (Nat.zero_add _)) (Nat.le_of_eq (Nat.zero_add _))
  · refine hv_perm (ws' := (o9, .inl (dA 4, 1, .inr (.inl f))) :: w1 u) hy_sw.symm ?_
    refine hv_eqst (st' := [.int (zI (a9 u)), .int (zI (0)), .ref o9]) (by rw [hrv]; rfl) ?_
    refine hv_i2l C dL_plant_8 (v := (zI (a9 u)).toInt64) rfl ?_
    refine hv_last C dL_plant_9 0 rfl 0 rfl (by decide) (by decide) ?_
    refine hv_weq (ws' := (o9, .inl (dA 4, 1, .inr (.inl (vp_updL f 0 (zI (a9 u)).toInt64)))) :: w1 u) rfl ?_
    refine hv_goto C dL_plant_10 (tgt := 17) (by decide) ?_
    refine hv_iconst C dL_plant_17 (v := zI (0)) rfl ?_
    exact hv_iret C M dL_plant_18 rfl rfl (Sum.inl u) hu rfl [] (List.Perm.of_eq (List.append_nil _).symm) (Nat.le_of_eq (Nat.zero_add _)) (Nat.le_of_eq (Nat.zero_add _))

set_option maxHeartbeats 4000000 in
set_option maxRecDepth 100000 in
theorem k_L_clip (l : Launch) (D : va_G) (dA : Nat → ClassId) (sa : Nat → Nat) (hst : l.stackTraces = false) {S : Type} {wc : va_W} {mc ms : Nat} {rv : S → Option Value} {post : S → Prop} {w1 : S → va_W} {PX : String → Prop} {fs : List Value} (xx o9 : Nat) (a : Int) (b : Int) (k : Int) (f : Nat → Int64) (a9 : S → Int) (hM : hx_Ct l yX8_clip (hw_W yX8_clip cX8_clip 4 (some .int)) 44 D dA sa [.ref xx, .int (zI (a)), .int (zI (b)), .int (zI (k))] wc mc ms rv post w1 PX) (hrv : ∀ u, rv u = some (.int (zI (a9 u)))) (hq : wc[0]? = some (xx, .inr (6, fs))) (hPX : ∀ E, PX E → E = hx_IOE ∨ E = hx_IAE ∨ E = hx_ISE) : hy_Ct l yL_clip (hw_H yL_clip cL_clip 6 (some .int) [(0, 12, 15, 27), (0, 12, 19, 13), (0, 12, 23, 15)]) 45 D dA sa [.ref xx, .int (zI (a)), .int (zI (b)), .int (zI (k)), .ref o9] ((o9, .inl (dA 4, 1, .inr (.inl f))) :: wc) mc ms (S := S ⊕ String) (Sum.elim (fun _ => some (.int (zI 0))) (fun E => some (.int (zI (mz_k3 hx_IOE hx_IAE (some E)))))) (Sum.elim post PX) (Sum.elim (fun u => (o9, .inl (dA 4, 1, .inr (.inl (vp_updL f 0 (zI (a9 u)).toInt64)))) :: w1 u) (fun _ => (o9, .inl (dA 4, 1, .inr (.inl f))) :: wc)) := by
  refine hy_of (own := RL) (cc := cL_clip) (maxL := 6) (ret := some .int) (hh := [(0, 12, 15, 27), (0, 12, 19, 13), (0, 12, 23, 15)]) tw_k_X8_clip hst rfl rfl (by decide) (Nat.le_of_ble_eq_true rfl) ?_
  intro p e s m args below meth c C X M
  refine hv_lveq (lv' := [(0, .ref xx), (1, .int (zI (a))), (2, .int (zI (b))), (3, .int (zI (k))), (4, .ref o9)]) rfl ?_
  refine hv_aload C dL_clip_0 4 rfl ?_
  refine hv_iconst C dL_clip_2 (v := zI (0)) rfl ?_
  refine hv_aload_n C dL_clip_3 0 rfl ?_
  refine hv_iload_n C dL_clip_4 1 rfl ?_
  refine hv_iload_n C dL_clip_5 2 rfl ?_
  refine hv_iload_n C dL_clip_6 3 rfl ?_
  refine hy_callV (As := [.int (zI (a)), .int (zI (b)), .int (zI (k))]) (rest := [.int (zI (0)), .ref o9]) (wc := wc) (wr := [(o9, .inl (dA 4, 1, .inr (.inl f)))]) C X hM (cwV 3 C.1.2.2.2.2 (hw_V tw_m_RL_39 tw_i_X8_clip tw_s_X8_clip tw_n_RX8 tw_k_X8_clip) rfl rfl rfl (by decide +kernel) ⟨Nat.le_of_ble_eq_true rfl, Nat.le_of_ble_eq_true rfl⟩) hy_sw rfl 0 6 hq rfl rfl (Nat.le_of_ble_eq_true rfl) dL_clip_7 ⟨Nat.le_of_eq (Nat.zero_add _), Nat.le_of_eq (Nat.zero_add _)⟩ (fun E q9 hE => ?_) (fun u hu => ?_)
  · rcases hPX E hE with e9 | e9 | e9
    · subst e9
      refine hy_h C X (by decide +kernel) [] ⟨0, 12, 15, 27⟩ [⟨0, 12, 19, 13⟩, ⟨0, 12, 23, 15⟩] rfl (fun z hz => absurd hz List.not_mem_nil) (by decide) (by decide) (hw_c tw_c_RL_27) ?_
      refine hv_astore C dL_clip_15 (lw := [(5, .ref q9), (0, .ref xx), (1, .int (zI (a))), (2, .int (zI (b))), (3, .int (zI (k))), (4, .ref o9)]) (by decide) rfl ?_
      refine hv_iconst C dL_clip_17 (v := zI (1)) rfl ?_
      exact hv_iret C M dL_clip_18 rfl rfl (Sum.inr hx_IOE) hE (show some (Value.int (zI (mz_k3 hx_IOE hx_IAE (some hx_IOE)))) = some (Value.int (zI (1))) from congrArg (fun q => some (Value.int (zI q))) mz_k3a) [] hy_sw3 (Nat.le_of_eq (Nat.zero_add _)) (Nat.le_of_eq (Nat.zero_add _))
    · subst e9
      refine hy_h C X (by decide +kernel) [⟨0, 12, 15, 27⟩] ⟨0, 12, 19, 13⟩ [⟨0, 12, 23, 15⟩] rfl (fun z hz => by simp only [List.mem_cons, List.not_mem_nil, or_false] at hz; subst hz; exact ⟨hx_IOE, by decide +kernel, hx_13, by decide, hw_c tw_c_RL_27⟩) (by decide) (by decide) (hw_c tw_c_RL_13) ?_
      refine hv_astore C dL_clip_19 (lw := [(5, .ref q9), (0, .ref xx), (1, .int (zI (a))), (2, .int (zI (b))), (3, .int (zI (k))), (4, .ref o9)]) (by decide) rfl ?_
      refine hv_iconst C dL_clip_21 (v := zI (2)) rfl ?_
      exact hv_iret C M dL_clip_22 rfl rfl (Sum.inr hx_IAE) hE (show some (Value.int (zI (mz_k3 hx_IOE hx_IAE (some hx_IAE)))) = some (Value.int (zI (2))) from congrArg (fun q => some (Value.int (zI q))) (mz_k3b hx_13)) [] hy_sw3 (Nat.le_of_eq (Nat.zero_add _)) (Nat.le_of_eq (Nat.zero_add _))
    · subst e9
      refine hy_h C X (by decide +kernel) [⟨0, 12, 15, 27⟩, ⟨0, 12, 19, 13⟩] ⟨0, 12, 23, 15⟩ [] rfl (fun z hz => by simp only [List.mem_cons, List.not_mem_nil, or_false] at hz; rcases hz with rfl | rfl <;> first | exact ⟨hx_IOE, by decide +kernel, hx_23, by decide, hw_c tw_c_RL_27⟩ | exact ⟨hx_IAE, by decide +kernel, hx_21, by decide, hw_c tw_c_RL_13⟩) (by decide) (by decide) (hw_c tw_c_RL_15) ?_
      refine hv_astore C dL_clip_23 (lw := [(5, .ref q9), (0, .ref xx), (1, .int (zI (a))), (2, .int (zI (b))), (3, .int (zI (k))), (4, .ref o9)]) (by decide) rfl ?_
      refine hv_iconst C dL_clip_25 (v := zI (3)) rfl ?_
      exact hv_iret C M dL_clip_26 rfl rfl (Sum.inr hx_ISE) hE (show some (Value.int (zI (mz_k3 hx_IOE hx_IAE (some hx_ISE)))) = some (Value.int (zI (3))) from congrArg (fun q => some (Value.int (zI q))) (mz_k3c hx_23 hx_21)) [] hy_sw3 (Nat.le_of_eq (Nat.zero_add _)) (Nat.le_of_eq (Nat.zero_add _))
  · refine hv_perm (ws' := (o9, .inl (dA 4, 1, .inr (.inl f))) :: w1 u) hy_sw.symm ?_
    refine hv_eqst (st' := [.int (zI (a9 u)), .int (zI (0)), .ref o9]) (by rw [hrv]; rfl) ?_
    refine hv_i2l C dL_clip_10 (v := (zI (a9 u)).toInt64) rfl ?_
    refine hv_last C dL_clip_11 0 rfl 0 rfl (by decide) (by decide) ?_
    refine hv_weq (ws' := (o9, .inl (dA 4, 1, .inr (.inl (vp_updL f 0 (zI (a9 u)).toInt64)))) :: w1 u) rfl ?_
    refine hv_goto C dL_clip_12 (tgt := 27) (by decide) ?_
    refine hv_iconst C dL_clip_27 (v := zI (0)) rfl ?_
    exact hv_iret C M dL_clip_28 rfl rfl (Sum.inl u) hu rfl [] (List.Perm.of_eq (List.append_nil _).symm) (Nat.le_of_eq (Nat.zero_add _)) (Nat.le_of_eq (Nat.zero_add _))

set_option maxHeartbeats 4000000 in
set_option maxRecDepth 100000 in
theorem k_L_water (l : Launch) (D : va_G) (dA : Nat → ClassId) (sa : Nat → Nat) (hst : l.stackTraces = false) {S : Type} {wc : va_W} {mc ms : Nat} {rv : S → Option Value} {post : S → Prop} {w1 : S → va_W} {PX : String → Prop} {fs : List Value} (xx o9 : Nat) (z : Int) (f : Nat → Int64) (a9 : S → Int) (hM : hx_Ct l yX8_water (hw_W yX8_water cX8_water 2 (some .int)) 44 D dA sa [.ref xx, .int (zI (z))] wc mc ms rv post w1 PX) (hrv : ∀ u, rv u = some (.int (zI (a9 u)))) (hq : wc[0]? = some (xx, .inr (6, fs))) (hPX : ∀ E, PX E → E = hx_IOE ∨ E = hx_ISE) : hy_Ct l yL_water (hw_H yL_water cL_water 4 (some .int) [(0, 9, 12, 27), (0, 9, 15, 15)]) 45 D dA sa [.ref xx, .int (zI (z)), .ref o9] ((o9, .inl (dA 4, 1, .inr (.inl f))) :: wc) mc ms (S := S ⊕ String) (Sum.elim (fun _ => some (.int (zI 0))) (fun E => some (.int (zI (mz_k2 hx_IOE (some E)))))) (Sum.elim post PX) (Sum.elim (fun u => (o9, .inl (dA 4, 1, .inr (.inl (vp_updL f 0 (zI (a9 u)).toInt64)))) :: w1 u) (fun _ => (o9, .inl (dA 4, 1, .inr (.inl f))) :: wc)) := by
  refine hy_of (own := RL) (cc := cL_water) (maxL := 4) (ret := some .int) (hh := [(0, 9, 12, 27), (0, 9, 15, 15)]) tw_k_X8_water hst rfl rfl (by decide) (Nat.le_of_ble_eq_true rfl) ?_
  intro p e s m args below meth c C X M
  refine hv_lveq (lv' := [(0, .ref xx), (1, .int (zI (z))), (2, .ref o9)]) rfl ?_
  refine hv_aload_n C dL_water_0 2 rfl ?_
  refine hv_iconst C dL_water_1 (v := zI (0)) rfl ?_
  refine hv_aload_n C dL_water_2 0 rfl ?_
  refine hv_iload_n C dL_water_3 1 rfl ?_
  refine hy_callV (As := [.int (zI (z))]) (rest := [.int (zI (0)), .ref o9]) (wc := wc) (wr := [(o9, .inl (dA 4, 1, .inr (.inl f)))]) C X hM (cwV 1 C.1.2.2.2.2 (hw_V tw_m_RL_43 tw_i_X8_water tw_s_X8_water tw_n_RX8 tw_k_X8_water) rfl rfl rfl (by decide +kernel) ⟨Nat.le_of_ble_eq_true rfl, Nat.le_of_ble_eq_true rfl⟩) hy_sw rfl 0 6 hq rfl rfl (Nat.le_of_ble_eq_true rfl) dL_water_4 ⟨Nat.le_of_eq (Nat.zero_add _), Nat.le_of_eq (Nat.zero_add _)⟩ (fun E q9 hE => ?_) (fun u hu => ?_)
  · rcases hPX E hE with e9 | e9
    · subst e9
      refine hy_h C X (by decide +kernel) [] ⟨0, 9, 12, 27⟩ [⟨0, 9, 15, 15⟩] rfl (fun z hz => absurd hz List.not_mem_nil) (by decide) (by decide) (hw_c tw_c_RL_27) ?_
      refine hv_astore_n C dL_water_12 (lw := [(3, .ref q9), (0, .ref xx), (1, .int (zI (z))), (2, .ref o9)]) (by decide) rfl ?_
      refine hv_iconst C dL_water_13 (v := zI (1)) rfl ?_
      exact hv_iret C M dL_water_14 rfl rfl (Sum.inr hx_IOE) hE (show some (Value.int (zI (mz_k2 hx_IOE (some hx_IOE)))) = some (Value.int (zI (1))) from congrArg (fun q => some (Value.int (zI q))) mz_k2a) [] hy_sw3 (Nat.le_of_eq (Nat.zero_add _)) (Nat.le_of_eq (Nat.zero_add _))
    · subst e9
      refine hy_h C X (by decide +kernel) [⟨0, 9, 12, 27⟩] ⟨0, 9, 15, 15⟩ [] rfl (fun z hz => by simp only [List.mem_cons, List.not_mem_nil, or_false] at hz; subst hz; exact ⟨hx_IOE, by decide +kernel, hx_23, by decide, hw_c tw_c_RL_27⟩) (by decide) (by decide) (hw_c tw_c_RL_15) ?_
      refine hv_astore_n C dL_water_15 (lw := [(3, .ref q9), (0, .ref xx), (1, .int (zI (z))), (2, .ref o9)]) (by decide) rfl ?_
      refine hv_iconst C dL_water_16 (v := zI (2)) rfl ?_
      exact hv_iret C M dL_water_17 rfl rfl (Sum.inr hx_ISE) hE (show some (Value.int (zI (mz_k2 hx_IOE (some hx_ISE)))) = some (Value.int (zI (2))) from congrArg (fun q => some (Value.int (zI q))) (mz_k2b hx_23)) [] hy_sw3 (Nat.le_of_eq (Nat.zero_add _)) (Nat.le_of_eq (Nat.zero_add _))
  · refine hv_perm (ws' := (o9, .inl (dA 4, 1, .inr (.inl f))) :: w1 u) hy_sw.symm ?_
    refine hv_eqst (st' := [.int (zI (a9 u)), .int (zI (0)), .ref o9]) (by rw [hrv]; rfl) ?_
    refine hv_i2l C dL_water_7 (v := (zI (a9 u)).toInt64) rfl ?_
    refine hv_last C dL_water_8 0 rfl 0 rfl (by decide) (by decide) ?_
    refine hv_weq (ws' := (o9, .inl (dA 4, 1, .inr (.inl (vp_updL f 0 (zI (a9 u)).toInt64)))) :: w1 u) rfl ?_
    refine hv_goto C dL_water_9 (tgt := 18) (by decide) ?_
    refine hv_iconst C dL_water_18 (v := zI (0)) rfl ?_
    exact hv_iret C M dL_water_19 rfl rfl (Sum.inl u) hu rfl [] (List.Perm.of_eq (List.append_nil _).symm) (Nat.le_of_eq (Nat.zero_add _)) (Nat.le_of_eq (Nat.zero_add _))

set_option maxHeartbeats 4000000 in
set_option maxRecDepth 100000 in
theorem k_L_wind (l : Launch) (D : va_G) (dA : Nat → ClassId) (sa : Nat → Nat) (hst : l.stackTraces = false) {S : Type} {wc : va_W} {mc ms : Nat} {rv : S → Option Value} {post : S → Prop} {w1 : S → va_W} {PX : String → Prop} {fs : List Value} (xx o9 : Nat) (z : Int) (f : Nat → Int64) (a9 : S → Int) (hM : hx_Ct l yX8_wind (hw_W yX8_wind cX8_wind 3 (some .int)) 44 D dA sa [.ref xx, .int (zI (z))] wc mc ms rv post w1 PX) (hrv : ∀ u, rv u = some (.int (zI (a9 u)))) (hq : wc[0]? = some (xx, .inr (6, fs))) (hPX : ∀ E, PX E → E = hx_IAE) : hy_Ct l yL_wind (hw_H yL_wind cL_wind 4 (some .int) [(0, 9, 12, 13)]) 45 D dA sa [.ref xx, .int (zI (z)), .ref o9] ((o9, .inl (dA 4, 1, .inr (.inl f))) :: wc) mc ms (S := S ⊕ String) (Sum.elim (fun _ => some (.int (zI 0))) (fun E => some (.int (zI (mz_k1 (some E)))))) (Sum.elim post PX) (Sum.elim (fun u => (o9, .inl (dA 4, 1, .inr (.inl (vp_updL f 0 (zI (a9 u)).toInt64)))) :: w1 u) (fun _ => (o9, .inl (dA 4, 1, .inr (.inl f))) :: wc)) := by
  refine hy_of (own := RL) (cc := cL_wind) (maxL := 4) (ret := some .int) (hh := [(0, 9, 12, 13)]) tw_k_X8_wind hst rfl rfl (by decide) (Nat.le_of_ble_eq_true rfl) ?_
  intro p e s m args below meth c C X M
  refine hv_lveq (lv' := [(0, .ref xx), (1, .int (zI (z))), (2, .ref o9)]) rfl ?_
  refine hv_aload_n C dL_wind_0 2 rfl ?_
  refine hv_iconst C dL_wind_1 (v := zI (0)) rfl ?_
  refine hv_aload_n C dL_wind_2 0 rfl ?_
  refine hv_iload_n C dL_wind_3 1 rfl ?_
  refine hy_callV (As := [.int (zI (z))]) (rest := [.int (zI (0)), .ref o9]) (wc := wc) (wr := [(o9, .inl (dA 4, 1, .inr (.inl f)))]) C X hM (cwV 1 C.1.2.2.2.2 (hw_V tw_m_RL_46 tw_i_X8_wind tw_s_X8_wind tw_n_RX8 tw_k_X8_wind) rfl rfl rfl (by decide +kernel) ⟨Nat.le_of_ble_eq_true rfl, Nat.le_of_ble_eq_true rfl⟩) hy_sw rfl 0 6 hq rfl rfl (Nat.le_of_ble_eq_true rfl) dL_wind_4 ⟨Nat.le_of_eq (Nat.zero_add _), Nat.le_of_eq (Nat.zero_add _)⟩ (fun E q9 hE => ?_) (fun u hu => ?_)
  · have e9 := hPX E hE
    subst e9
    refine hy_h C X (by decide +kernel) [] ⟨0, 9, 12, 13⟩ [] rfl (fun z hz => absurd hz List.not_mem_nil) (by decide) (by decide) (hw_c tw_c_RL_13) ?_
    refine hv_astore_n C dL_wind_12 (lw := [(3, .ref q9), (0, .ref xx), (1, .int (zI (z))), (2, .ref o9)]) (by decide) rfl ?_
    refine hv_iconst C dL_wind_13 (v := zI (1)) rfl ?_
    exact hv_iret C M dL_wind_14 rfl rfl (Sum.inr hx_IAE) hE (show some (Value.int (zI (mz_k1 (some hx_IAE)))) = some (Value.int (zI (1))) from congrArg (fun q => some (Value.int (zI q))) mz_k1s) [] hy_sw3 (Nat.le_of_eq (Nat.zero_add _)) (Nat.le_of_eq (Nat.zero_add _))
  · refine hv_perm (ws' := (o9, .inl (dA 4, 1, .inr (.inl f))) :: w1 u) hy_sw.symm ?_
    refine hv_eqst (st' := [.int (zI (a9 u)), .int (zI (0)), .ref o9]) (by rw [hrv]; rfl) ?_
    refine hv_i2l C dL_wind_7 (v := (zI (a9 u)).toInt64) rfl ?_
    refine hv_last C dL_wind_8 0 rfl 0 rfl (by decide) (by decide) ?_
    refine hv_weq (ws' := (o9, .inl (dA 4, 1, .inr (.inl (vp_updL f 0 (zI (a9 u)).toInt64)))) :: w1 u) rfl ?_
    refine hv_goto C dL_wind_9 (tgt := 15) (by decide) ?_
    refine hv_iconst C dL_wind_15 (v := zI (0)) rfl ?_
    exact hv_iret C M dL_wind_16 rfl rfl (Sum.inl u) hu rfl [] (List.Perm.of_eq (List.append_nil _).symm) (Nat.le_of_eq (Nat.zero_add _)) (Nat.le_of_eq (Nat.zero_add _))

set_option maxHeartbeats 4000000 in
set_option maxRecDepth 100000 in
theorem k_L_set (l : Launch) (D : va_G) (dA : Nat → ClassId) (sa : Nat → Nat) (hst : l.stackTraces = false) {S : Type} {wc : va_W} {mc ms : Nat} {rv : S → Option Value} {post : S → Prop} {w1 : S → va_W} {PX : String → Prop} {fs : List Value} (xx o9 : Nat) (a : Int) (v : Int) (f : Nat → Int64) (a9 : S → Int) (hM : hx_Ct l yX8_set (hw_W yX8_set cX8_set 4 (some .int)) 44 D dA sa [.ref xx, .int (zI (a)), .int (zI (v))] wc mc ms rv post w1 PX) (hrv : ∀ u, rv u = some (.int (zI (a9 u)))) (hq : wc[0]? = some (xx, .inr (6, fs))) (hPX : ∀ E, PX E → E = hx_IAE) : hy_Ct l yL_set (hw_H yL_set cL_set 5 (some .int) [(0, 10, 13, 13)]) 45 D dA sa [.ref xx, .int (zI (a)), .int (zI (v)), .ref o9] ((o9, .inl (dA 4, 1, .inr (.inl f))) :: wc) mc ms (S := S ⊕ String) (Sum.elim (fun _ => some (.int (zI 0))) (fun E => some (.int (zI (mz_k1 (some E)))))) (Sum.elim post PX) (Sum.elim (fun u => (o9, .inl (dA 4, 1, .inr (.inl (vp_updL f 0 (zI (a9 u)).toInt64)))) :: w1 u) (fun _ => (o9, .inl (dA 4, 1, .inr (.inl f))) :: wc)) := by
  refine hy_of (own := RL) (cc := cL_set) (maxL := 5) (ret := some .int) (hh := [(0, 10, 13, 13)]) tw_k_X8_set hst rfl rfl (by decide) (Nat.le_of_ble_eq_true rfl) ?_
  intro p e s m args below meth c C X M
  refine hv_lveq (lv' := [(0, .ref xx), (1, .int (zI (a))), (2, .int (zI (v))), (3, .ref o9)]) rfl ?_
  refine hv_aload_n C dL_set_0 3 rfl ?_
  refine hv_iconst C dL_set_1 (v := zI (0)) rfl ?_
  refine hv_aload_n C dL_set_2 0 rfl ?_
  refine hv_iload_n C dL_set_3 1 rfl ?_
  refine hv_iload_n C dL_set_4 2 rfl ?_
  refine hy_callV (As := [.int (zI (a)), .int (zI (v))]) (rest := [.int (zI (0)), .ref o9]) (wc := wc) (wr := [(o9, .inl (dA 4, 1, .inr (.inl f)))]) C X hM (cwV 2 C.1.2.2.2.2 (hw_V tw_m_RL_49 tw_i_X8_set tw_s_X8_set tw_n_RX8 tw_k_X8_set) rfl rfl rfl (by decide +kernel) ⟨Nat.le_of_ble_eq_true rfl, Nat.le_of_ble_eq_true rfl⟩) hy_sw rfl 0 6 hq rfl rfl (Nat.le_of_ble_eq_true rfl) dL_set_5 ⟨Nat.le_of_eq (Nat.zero_add _), Nat.le_of_eq (Nat.zero_add _)⟩ (fun E q9 hE => ?_) (fun u hu => ?_)
  · have e9 := hPX E hE
    subst e9
    refine hy_h C X (by decide +kernel) [] ⟨0, 10, 13, 13⟩ [] rfl (fun z hz => absurd hz List.not_mem_nil) (by decide) (by decide) (hw_c tw_c_RL_13) ?_
    refine hv_astore C dL_set_13 (lw := [(4, .ref q9), (0, .ref xx), (1, .int (zI (a))), (2, .int (zI (v))), (3, .ref o9)]) (by decide) rfl ?_
    refine hv_iconst C dL_set_15 (v := zI (1)) rfl ?_
    exact hv_iret C M dL_set_16 rfl rfl (Sum.inr hx_IAE) hE (show some (Value.int (zI (mz_k1 (some hx_IAE)))) = some (Value.int (zI (1))) from congrArg (fun q => some (Value.int (zI q))) mz_k1s) [] hy_sw3 (Nat.le_of_eq (Nat.zero_add _)) (Nat.le_of_eq (Nat.zero_add _))
  · refine hv_perm (ws' := (o9, .inl (dA 4, 1, .inr (.inl f))) :: w1 u) hy_sw.symm ?_
    refine hv_eqst (st' := [.int (zI (a9 u)), .int (zI (0)), .ref o9]) (by rw [hrv]; rfl) ?_
    refine hv_i2l C dL_set_8 (v := (zI (a9 u)).toInt64) rfl ?_
    refine hv_last C dL_set_9 0 rfl 0 rfl (by decide) (by decide) ?_
    refine hv_weq (ws' := (o9, .inl (dA 4, 1, .inr (.inl (vp_updL f 0 (zI (a9 u)).toInt64)))) :: w1 u) rfl ?_
    refine hv_goto C dL_set_10 (tgt := 17) (by decide) ?_
    refine hv_iconst C dL_set_17 (v := zI (0)) rfl ?_
    exact hv_iret C M dL_set_18 rfl rfl (Sum.inl u) hu rfl [] (List.Perm.of_eq (List.append_nil _).symm) (Nat.le_of_eq (Nat.zero_add _)) (Nat.le_of_eq (Nat.zero_add _))

set_option maxHeartbeats 4000000 in
set_option maxRecDepth 100000 in
theorem k_L_undo (l : Launch) (D : va_G) (dA : Nat → ClassId) (sa : Nat → Nat) (hst : l.stackTraces = false) {S : Type} {wc : va_W} {mc ms : Nat} {rv : S → Option Value} {post : S → Prop} {w1 : S → va_W} {PX : String → Prop} {fs : List Value} (xx o9 : Nat) (f : Nat → Int64) (a9 : S → Int) (hM : hx_Ct l yX8_undo (hw_W yX8_undo cX8_undo 1 (some .int)) 44 D dA sa [.ref xx] wc mc ms rv post w1 PX) (hrv : ∀ u, rv u = some (.int (zI (a9 u)))) (hq : wc[0]? = some (xx, .inr (6, fs))) (hPX : ∀ E, PX E → E = hx_ISE) : hy_Ct l yL_undo (hw_H yL_undo cL_undo 3 (some .int) [(0, 8, 11, 15)]) 45 D dA sa [.ref xx, .ref o9] ((o9, .inl (dA 4, 1, .inr (.inl f))) :: wc) mc ms (S := S ⊕ String) (Sum.elim (fun _ => some (.int (zI 0))) (fun E => some (.int (zI (mz_k1 (some E)))))) (Sum.elim post PX) (Sum.elim (fun u => (o9, .inl (dA 4, 1, .inr (.inl (vp_updL f 0 (zI (a9 u)).toInt64)))) :: w1 u) (fun _ => (o9, .inl (dA 4, 1, .inr (.inl f))) :: wc)) := by
  refine hy_of (own := RL) (cc := cL_undo) (maxL := 3) (ret := some .int) (hh := [(0, 8, 11, 15)]) tw_k_X8_undo hst rfl rfl (by decide) (Nat.le_of_ble_eq_true rfl) ?_
  intro p e s m args below meth c C X M
  refine hv_lveq (lv' := [(0, .ref xx), (1, .ref o9)]) rfl ?_
  refine hv_aload_n C dL_undo_0 1 rfl ?_
  refine hv_iconst C dL_undo_1 (v := zI (0)) rfl ?_
  refine hv_aload_n C dL_undo_2 0 rfl ?_
  refine hy_callV (As := []) (rest := [.int (zI (0)), .ref o9]) (wc := wc) (wr := [(o9, .inl (dA 4, 1, .inr (.inl f)))]) C X hM (cwV 0 C.1.2.2.2.2 (hw_V tw_m_RL_52 tw_i_X8_undo tw_s_X8_undo tw_n_RX8 tw_k_X8_undo) rfl rfl rfl (by decide +kernel) ⟨Nat.le_of_ble_eq_true rfl, Nat.le_of_ble_eq_true rfl⟩) hy_sw rfl 0 6 hq rfl rfl (Nat.le_of_ble_eq_true rfl) dL_undo_3 ⟨Nat.le_of_eq (Nat.zero_add _), Nat.le_of_eq (Nat.zero_add _)⟩ (fun E q9 hE => ?_) (fun u hu => ?_)
  · have e9 := hPX E hE
    subst e9
    refine hy_h C X (by decide +kernel) [] ⟨0, 8, 11, 15⟩ [] rfl (fun z hz => absurd hz List.not_mem_nil) (by decide) (by decide) (hw_c tw_c_RL_15) ?_
    refine hv_astore_n C dL_undo_11 (lw := [(2, .ref q9), (0, .ref xx), (1, .ref o9)]) (by decide) rfl ?_
    refine hv_iconst C dL_undo_12 (v := zI (1)) rfl ?_
    exact hv_iret C M dL_undo_13 rfl rfl (Sum.inr hx_ISE) hE (show some (Value.int (zI (mz_k1 (some hx_ISE)))) = some (Value.int (zI (1))) from congrArg (fun q => some (Value.int (zI q))) mz_k1s) [] hy_sw3 (Nat.le_of_eq (Nat.zero_add _)) (Nat.le_of_eq (Nat.zero_add _))
  · refine hv_perm (ws' := (o9, .inl (dA 4, 1, .inr (.inl f))) :: w1 u) hy_sw.symm ?_
    refine hv_eqst (st' := [.int (zI (a9 u)), .int (zI (0)), .ref o9]) (by rw [hrv]; rfl) ?_
    refine hv_i2l C dL_undo_6 (v := (zI (a9 u)).toInt64) rfl ?_
    refine hv_last C dL_undo_7 0 rfl 0 rfl (by decide) (by decide) ?_
    refine hv_weq (ws' := (o9, .inl (dA 4, 1, .inr (.inl (vp_updL f 0 (zI (a9 u)).toInt64)))) :: w1 u) rfl ?_
    refine hv_goto C dL_undo_8 (tgt := 14) (by decide) ?_
    refine hv_iconst C dL_undo_14 (v := zI (0)) rfl ?_
    exact hv_iret C M dL_undo_15 rfl rfl (Sum.inl u) hu rfl [] (List.Perm.of_eq (List.append_nil _).symm) (Nat.le_of_eq (Nat.zero_add _)) (Nat.le_of_eq (Nat.zero_add _))

set_option maxHeartbeats 4000000 in
set_option maxRecDepth 100000 in
theorem k_L_ifClipped (l : Launch) (D : va_G) (dA : Nat → ClassId) (sa : Nat → Nat) (hst : l.stackTraces = false) {S : Type} {wc : va_W} {mc ms : Nat} {rv : S → Option Value} {post : S → Prop} {w1 : S → va_W} {PX : String → Prop} {fs : List Value} (xx o9 : Nat) (a : Int) (b : Int) (k : Int) (v : Int) (f : Nat → Int64) (a9 : S → Int) (hM : hx_Ct l yX8_ifClipped (hw_W yX8_ifClipped cX8_ifClipped 7 (some .int)) 44 D dA sa [.ref xx, .int (zI (a)), .int (zI (b)), .int (zI (k)), .int (zI (v))] wc mc ms rv post w1 PX) (hrv : ∀ u, rv u = some (.int (zI (a9 u)))) (hq : wc[0]? = some (xx, .inr (6, fs))) (hPX : ∀ E, PX E → E = hx_IOE ∨ E = hx_IAE) : hy_Ct l yL_ifClipped (hw_H yL_ifClipped cL_ifClipped 7 (some .int) [(0, 14, 17, 27), (0, 14, 21, 13)]) 45 D dA sa [.ref xx, .int (zI (a)), .int (zI (b)), .int (zI (k)), .int (zI (v)), .ref o9] ((o9, .inl (dA 4, 1, .inr (.inl f))) :: wc) mc ms (S := S ⊕ String) (Sum.elim (fun _ => some (.int (zI 0))) (fun E => some (.int (zI (mz_k2 hx_IOE (some E)))))) (Sum.elim post PX) (Sum.elim (fun u => (o9, .inl (dA 4, 1, .inr (.inl (vp_updL f 0 (zI (a9 u)).toInt64)))) :: w1 u) (fun _ => (o9, .inl (dA 4, 1, .inr (.inl f))) :: wc)) := by
  refine hy_of (own := RL) (cc := cL_ifClipped) (maxL := 7) (ret := some .int) (hh := [(0, 14, 17, 27), (0, 14, 21, 13)]) tw_k_X8_ifClipped hst rfl rfl (by decide) (Nat.le_of_ble_eq_true rfl) ?_
  intro p e s m args below meth c C X M
  refine hv_lveq (lv' := [(0, .ref xx), (1, .int (zI (a))), (2, .int (zI (b))), (3, .int (zI (k))), (4, .int (zI (v))), (5, .ref o9)]) rfl ?_
  refine hv_aload C dL_ifClipped_0 5 rfl ?_
  refine hv_iconst C dL_ifClipped_2 (v := zI (0)) rfl ?_
  refine hv_aload_n C dL_ifClipped_3 0 rfl ?_
  refine hv_iload_n C dL_ifClipped_4 1 rfl ?_
  refine hv_iload_n C dL_ifClipped_5 2 rfl ?_
  refine hv_iload_n C dL_ifClipped_6 3 rfl ?_
  refine hv_iload C dL_ifClipped_7 4 rfl ?_
  refine hy_callV (As := [.int (zI (a)), .int (zI (b)), .int (zI (k)), .int (zI (v))]) (rest := [.int (zI (0)), .ref o9]) (wc := wc) (wr := [(o9, .inl (dA 4, 1, .inr (.inl f)))]) C X hM (cwV 4 C.1.2.2.2.2 (hw_V tw_m_RL_55 tw_i_X8_ifClipped tw_s_X8_ifClipped tw_n_RX8 tw_k_X8_ifClipped) rfl rfl rfl (by decide +kernel) ⟨Nat.le_of_ble_eq_true rfl, Nat.le_of_ble_eq_true rfl⟩) hy_sw rfl 0 6 hq rfl rfl (Nat.le_of_ble_eq_true rfl) dL_ifClipped_9 ⟨Nat.le_of_eq (Nat.zero_add _), Nat.le_of_eq (Nat.zero_add _)⟩ (fun E q9 hE => ?_) (fun u hu => ?_)
  · rcases hPX E hE with e9 | e9
    · subst e9
      refine hy_h C X (by decide +kernel) [] ⟨0, 14, 17, 27⟩ [⟨0, 14, 21, 13⟩] rfl (fun z hz => absurd hz List.not_mem_nil) (by decide) (by decide) (hw_c tw_c_RL_27) ?_
      refine hv_astore C dL_ifClipped_17 (lw := [(6, .ref q9), (0, .ref xx), (1, .int (zI (a))), (2, .int (zI (b))), (3, .int (zI (k))), (4, .int (zI (v))), (5, .ref o9)]) (by decide) rfl ?_
      refine hv_iconst C dL_ifClipped_19 (v := zI (1)) rfl ?_
      exact hv_iret C M dL_ifClipped_20 rfl rfl (Sum.inr hx_IOE) hE (show some (Value.int (zI (mz_k2 hx_IOE (some hx_IOE)))) = some (Value.int (zI (1))) from congrArg (fun q => some (Value.int (zI q))) mz_k2a) [] hy_sw3 (Nat.le_of_eq (Nat.zero_add _)) (Nat.le_of_eq (Nat.zero_add _))
    · subst e9
      refine hy_h C X (by decide +kernel) [⟨0, 14, 17, 27⟩] ⟨0, 14, 21, 13⟩ [] rfl (fun z hz => by simp only [List.mem_cons, List.not_mem_nil, or_false] at hz; subst hz; exact ⟨hx_IOE, by decide +kernel, hx_13, by decide, hw_c tw_c_RL_27⟩) (by decide) (by decide) (hw_c tw_c_RL_13) ?_
      refine hv_astore C dL_ifClipped_21 (lw := [(6, .ref q9), (0, .ref xx), (1, .int (zI (a))), (2, .int (zI (b))), (3, .int (zI (k))), (4, .int (zI (v))), (5, .ref o9)]) (by decide) rfl ?_
      refine hv_iconst C dL_ifClipped_23 (v := zI (2)) rfl ?_
      exact hv_iret C M dL_ifClipped_24 rfl rfl (Sum.inr hx_IAE) hE (show some (Value.int (zI (mz_k2 hx_IOE (some hx_IAE)))) = some (Value.int (zI (2))) from congrArg (fun q => some (Value.int (zI q))) (mz_k2b hx_13)) [] hy_sw3 (Nat.le_of_eq (Nat.zero_add _)) (Nat.le_of_eq (Nat.zero_add _))
  · refine hv_perm (ws' := (o9, .inl (dA 4, 1, .inr (.inl f))) :: w1 u) hy_sw.symm ?_
    refine hv_eqst (st' := [.int (zI (a9 u)), .int (zI (0)), .ref o9]) (by rw [hrv]; rfl) ?_
    refine hv_i2l C dL_ifClipped_12 (v := (zI (a9 u)).toInt64) rfl ?_
    refine hv_last C dL_ifClipped_13 0 rfl 0 rfl (by decide) (by decide) ?_
    refine hv_weq (ws' := (o9, .inl (dA 4, 1, .inr (.inl (vp_updL f 0 (zI (a9 u)).toInt64)))) :: w1 u) rfl ?_
    refine hv_goto C dL_ifClipped_14 (tgt := 25) (by decide) ?_
    refine hv_iconst C dL_ifClipped_25 (v := zI (0)) rfl ?_
    exact hv_iret C M dL_ifClipped_26 rfl rfl (Sum.inl u) hu rfl [] (List.Perm.of_eq (List.append_nil _).symm) (Nat.le_of_eq (Nat.zero_add _)) (Nat.le_of_eq (Nat.zero_add _))

set_option maxHeartbeats 4000000 in
set_option maxRecDepth 100000 in
theorem k_L_goesOn (l : Launch) (D : va_G) (dA : Nat → ClassId) (sa : Nat → Nat) (hst : l.stackTraces = false) {S : Type} {wc : va_W} {mc ms : Nat} {rv : S → Option Value} {post : S → Prop} {w1 : S → va_W} {PX : String → Prop} {fs : List Value} (xx o9 : Nat) (a : Int) (b : Int) (f : Nat → Int64) (a9 : S → Int) (hM : hx_Ct l yX8_goesOn (hw_W yX8_goesOn cX8_goesOn 6 (some .int)) 44 D dA sa [.ref xx, .int (zI (a)), .int (zI (b))] wc mc ms rv post w1 PX) (hrv : ∀ u, rv u = some (.int (zI (a9 u)))) (hq : wc[0]? = some (xx, .inr (6, fs))) (hPX : ∀ E, PX E → E = hx_IAE) : hy_Ct l yL_goesOn (hw_H yL_goesOn cL_goesOn 5 (some .int) [(0, 10, 13, 13)]) 45 D dA sa [.ref xx, .int (zI (a)), .int (zI (b)), .ref o9] ((o9, .inl (dA 4, 1, .inr (.inl f))) :: wc) mc ms (S := S ⊕ String) (Sum.elim (fun _ => some (.int (zI 0))) (fun E => some (.int (zI (mz_k1 (some E)))))) (Sum.elim post PX) (Sum.elim (fun u => (o9, .inl (dA 4, 1, .inr (.inl (vp_updL f 0 (zI (a9 u)).toInt64)))) :: w1 u) (fun _ => (o9, .inl (dA 4, 1, .inr (.inl f))) :: wc)) := by
  refine hy_of (own := RL) (cc := cL_goesOn) (maxL := 5) (ret := some .int) (hh := [(0, 10, 13, 13)]) tw_k_X8_goesOn hst rfl rfl (by decide) (Nat.le_of_ble_eq_true rfl) ?_
  intro p e s m args below meth c C X M
  refine hv_lveq (lv' := [(0, .ref xx), (1, .int (zI (a))), (2, .int (zI (b))), (3, .ref o9)]) rfl ?_
  refine hv_aload_n C dL_goesOn_0 3 rfl ?_
  refine hv_iconst C dL_goesOn_1 (v := zI (0)) rfl ?_
  refine hv_aload_n C dL_goesOn_2 0 rfl ?_
  refine hv_iload_n C dL_goesOn_3 1 rfl ?_
  refine hv_iload_n C dL_goesOn_4 2 rfl ?_
  refine hy_callV (As := [.int (zI (a)), .int (zI (b))]) (rest := [.int (zI (0)), .ref o9]) (wc := wc) (wr := [(o9, .inl (dA 4, 1, .inr (.inl f)))]) C X hM (cwV 2 C.1.2.2.2.2 (hw_V tw_m_RL_59 tw_i_X8_goesOn tw_s_X8_goesOn tw_n_RX8 tw_k_X8_goesOn) rfl rfl rfl (by decide +kernel) ⟨Nat.le_of_ble_eq_true rfl, Nat.le_of_ble_eq_true rfl⟩) hy_sw rfl 0 6 hq rfl rfl (Nat.le_of_ble_eq_true rfl) dL_goesOn_5 ⟨Nat.le_of_eq (Nat.zero_add _), Nat.le_of_eq (Nat.zero_add _)⟩ (fun E q9 hE => ?_) (fun u hu => ?_)
  · have e9 := hPX E hE
    subst e9
    refine hy_h C X (by decide +kernel) [] ⟨0, 10, 13, 13⟩ [] rfl (fun z hz => absurd hz List.not_mem_nil) (by decide) (by decide) (hw_c tw_c_RL_13) ?_
    refine hv_astore C dL_goesOn_13 (lw := [(4, .ref q9), (0, .ref xx), (1, .int (zI (a))), (2, .int (zI (b))), (3, .ref o9)]) (by decide) rfl ?_
    refine hv_iconst C dL_goesOn_15 (v := zI (1)) rfl ?_
    exact hv_iret C M dL_goesOn_16 rfl rfl (Sum.inr hx_IAE) hE (show some (Value.int (zI (mz_k1 (some hx_IAE)))) = some (Value.int (zI (1))) from congrArg (fun q => some (Value.int (zI q))) mz_k1s) [] hy_sw3 (Nat.le_of_eq (Nat.zero_add _)) (Nat.le_of_eq (Nat.zero_add _))
  · refine hv_perm (ws' := (o9, .inl (dA 4, 1, .inr (.inl f))) :: w1 u) hy_sw.symm ?_
    refine hv_eqst (st' := [.int (zI (a9 u)), .int (zI (0)), .ref o9]) (by rw [hrv]; rfl) ?_
    refine hv_i2l C dL_goesOn_8 (v := (zI (a9 u)).toInt64) rfl ?_
    refine hv_last C dL_goesOn_9 0 rfl 0 rfl (by decide) (by decide) ?_
    refine hv_weq (ws' := (o9, .inl (dA 4, 1, .inr (.inl (vp_updL f 0 (zI (a9 u)).toInt64)))) :: w1 u) rfl ?_
    refine hv_goto C dL_goesOn_10 (tgt := 17) (by decide) ?_
    refine hv_iconst C dL_goesOn_17 (v := zI (0)) rfl ?_
    exact hv_iret C M dL_goesOn_18 rfl rfl (Sum.inl u) hu rfl [] (List.Perm.of_eq (List.append_nil _).symm) (Nat.le_of_eq (Nat.zero_add _)) (Nat.le_of_eq (Nat.zero_add _))

set_option maxHeartbeats 4000000 in
set_option maxRecDepth 100000 in
theorem k_L_runScript (l : Launch) (D : va_G) (dA : Nat → ClassId) (sa : Nat → Nat) (hst : l.stackTraces = false) {S : Type} {wc : va_W} {mc ms : Nat} {rv : S → Option Value} {post : S → Prop} {w1 : S → va_W} {PX : String → Prop} {fs : List Value} (xx o9 : Nat) (z : Int) (x9 : Int64) (f : Nat → Int64) (a9 : S → Int) (hM : hx_Ct l yX8_runScript (hw_W yX8_runScript cX8_runScript 5 (some .int)) 44 D dA sa [.ref xx, .int (zI (z)), .long (x9)] wc mc ms rv post w1 PX) (hrv : ∀ u, rv u = some (.int (zI (a9 u)))) (hq : wc[0]? = some (xx, .inr (6, fs))) (hPX : ∀ E, PX E → E = hx_IAE) : hy_Ct l yL_runScript (hw_H yL_runScript cL_runScript 6 (some .int) [(0, 11, 14, 13)]) 45 D dA sa [.ref xx, .int (zI (z)), .long (x9), .ref o9] ((o9, .inl (dA 4, 1, .inr (.inl f))) :: wc) mc ms (S := S ⊕ String) (Sum.elim (fun _ => some (.int (zI 0))) (fun E => some (.int (zI (mz_k1 (some E)))))) (Sum.elim post PX) (Sum.elim (fun u => (o9, .inl (dA 4, 1, .inr (.inl (vp_updL f 0 (zI (a9 u)).toInt64)))) :: w1 u) (fun _ => (o9, .inl (dA 4, 1, .inr (.inl f))) :: wc)) := by
  refine hy_of (own := RL) (cc := cL_runScript) (maxL := 6) (ret := some .int) (hh := [(0, 11, 14, 13)]) tw_k_X8_runScript hst rfl rfl (by decide) (Nat.le_of_ble_eq_true rfl) ?_
  intro p e s m args below meth c C X M
  refine hv_lveq (lv' := [(0, .ref xx), (1, .int (zI (z))), (2, .long (x9)), (4, .ref o9)]) rfl ?_
  refine hv_aload C dL_runScript_0 3 rfl ?_
  refine hv_iconst C dL_runScript_2 (v := zI (0)) rfl ?_
  refine hv_aload_n C dL_runScript_3 0 rfl ?_
  refine hv_iload_n C dL_runScript_4 1 rfl ?_
  refine hv_lload_n C dL_runScript_5 2 rfl ?_
  refine hy_callV (As := [.int (zI (z)), .long (x9)]) (rest := [.int (zI (0)), .ref o9]) (wc := wc) (wr := [(o9, .inl (dA 4, 1, .inr (.inl f)))]) C X hM (cwV 2 C.1.2.2.2.2 (hw_V tw_m_RL_62 tw_i_X8_runScript tw_s_X8_runScript tw_n_RX8 tw_k_X8_runScript) rfl rfl rfl (by decide +kernel) ⟨Nat.le_of_ble_eq_true rfl, Nat.le_of_ble_eq_true rfl⟩) hy_sw rfl 0 6 hq rfl rfl (Nat.le_of_ble_eq_true rfl) dL_runScript_6 ⟨Nat.le_of_eq (Nat.zero_add _), Nat.le_of_eq (Nat.zero_add _)⟩ (fun E q9 hE => ?_) (fun u hu => ?_)
  · have e9 := hPX E hE
    subst e9
    refine hy_h C X (by decide +kernel) [] ⟨0, 11, 14, 13⟩ [] rfl (fun z hz => absurd hz List.not_mem_nil) (by decide) (by decide) (hw_c tw_c_RL_13) ?_
    refine hv_astore C dL_runScript_14 (lw := [(5, .ref q9), (0, .ref xx), (1, .int (zI (z))), (2, .long (x9)), (4, .ref o9)]) (by decide) rfl ?_
    refine hv_iconst C dL_runScript_16 (v := zI (1)) rfl ?_
    exact hv_iret C M dL_runScript_17 rfl rfl (Sum.inr hx_IAE) hE (show some (Value.int (zI (mz_k1 (some hx_IAE)))) = some (Value.int (zI (1))) from congrArg (fun q => some (Value.int (zI q))) mz_k1s) [] hy_sw3 (Nat.le_of_eq (Nat.zero_add _)) (Nat.le_of_eq (Nat.zero_add _))
  · refine hv_perm (ws' := (o9, .inl (dA 4, 1, .inr (.inl f))) :: w1 u) hy_sw.symm ?_
    refine hv_eqst (st' := [.int (zI (a9 u)), .int (zI (0)), .ref o9]) (by rw [hrv]; rfl) ?_
    refine hv_i2l C dL_runScript_9 (v := (zI (a9 u)).toInt64) rfl ?_
    refine hv_last C dL_runScript_10 0 rfl 0 rfl (by decide) (by decide) ?_
    refine hv_weq (ws' := (o9, .inl (dA 4, 1, .inr (.inl (vp_updL f 0 (zI (a9 u)).toInt64)))) :: w1 u) rfl ?_
    refine hv_goto C dL_runScript_11 (tgt := 18) (by decide) ?_
    refine hv_iconst C dL_runScript_18 (v := zI (0)) rfl ?_
    exact hv_iret C M dL_runScript_19 rfl rfl (Sum.inl u) hu rfl [] (List.Perm.of_eq (List.append_nil _).symm) (Nat.le_of_eq (Nat.zero_add _)) (Nat.le_of_eq (Nat.zero_add _))

set_option maxHeartbeats 4000000 in
set_option maxRecDepth 100000 in
theorem k_L_simulate (l : Launch) (D : va_G) (dA : Nat → ClassId) (sa : Nat → Nat) (hst : l.stackTraces = false) {S : Type} {wc : va_W} {mc ms : Nat} {rv : S → Option Value} {post : S → Prop} {w1 : S → va_W} {PX : String → Prop} {fs : List Value} (xx o9 : Nat) (x9 : Int64) (z : Int) (f : Nat → Int64) (a9 : S → Int) (hM : hx_Ct l yX8_simulate (hw_W yX8_simulate cX8_simulate 8 (some .int)) 44 D dA sa [.ref xx, .long (x9), .int (zI (z))] wc mc ms rv post w1 PX) (hrv : ∀ u, rv u = some (.int (zI (a9 u)))) (hq : wc[0]? = some (xx, .inr (6, fs))) (hPX : ∀ E, PX E → E = hx_IAE) : hy_Ct l yL_simulate (hw_H yL_simulate cL_simulate 6 (some .int) [(0, 11, 14, 13)]) 45 D dA sa [.ref xx, .long (x9), .int (zI (z)), .ref o9] ((o9, .inl (dA 4, 1, .inr (.inl f))) :: wc) mc ms (S := S ⊕ String) (Sum.elim (fun _ => some (.int (zI 0))) (fun E => some (.int (zI (mz_k1 (some E)))))) (Sum.elim post PX) (Sum.elim (fun u => (o9, .inl (dA 4, 1, .inr (.inl (vp_updL f 0 (zI (a9 u)).toInt64)))) :: w1 u) (fun _ => (o9, .inl (dA 4, 1, .inr (.inl f))) :: wc)) := by
  refine hy_of (own := RL) (cc := cL_simulate) (maxL := 6) (ret := some .int) (hh := [(0, 11, 14, 13)]) tw_k_X8_simulate hst rfl rfl (by decide) (Nat.le_of_ble_eq_true rfl) ?_
  intro p e s m args below meth c C X M
  refine hv_lveq (lv' := [(0, .ref xx), (1, .long (x9)), (3, .int (zI (z))), (4, .ref o9)]) rfl ?_
  refine hv_aload C dL_simulate_0 3 rfl ?_
  refine hv_iconst C dL_simulate_2 (v := zI (0)) rfl ?_
  refine hv_aload_n C dL_simulate_3 0 rfl ?_
  refine hv_lload_n C dL_simulate_4 1 rfl ?_
  refine hv_iload_n C dL_simulate_5 2 rfl ?_
  refine hy_callV (As := [.long (x9), .int (zI (z))]) (rest := [.int (zI (0)), .ref o9]) (wc := wc) (wr := [(o9, .inl (dA 4, 1, .inr (.inl f)))]) C X hM (cwV 2 C.1.2.2.2.2 (hw_V tw_m_RL_66 tw_i_X8_simulate tw_s_X8_simulate tw_n_RX8 tw_k_X8_simulate) rfl rfl rfl (by decide +kernel) ⟨Nat.le_of_ble_eq_true rfl, Nat.le_of_ble_eq_true rfl⟩) hy_sw rfl 0 6 hq rfl rfl (Nat.le_of_ble_eq_true rfl) dL_simulate_6 ⟨Nat.le_of_eq (Nat.zero_add _), Nat.le_of_eq (Nat.zero_add _)⟩ (fun E q9 hE => ?_) (fun u hu => ?_)
  · have e9 := hPX E hE
    subst e9
    refine hy_h C X (by decide +kernel) [] ⟨0, 11, 14, 13⟩ [] rfl (fun z hz => absurd hz List.not_mem_nil) (by decide) (by decide) (hw_c tw_c_RL_13) ?_
    refine hv_astore C dL_simulate_14 (lw := [(5, .ref q9), (0, .ref xx), (1, .long (x9)), (3, .int (zI (z))), (4, .ref o9)]) (by decide) rfl ?_
    refine hv_iconst C dL_simulate_16 (v := zI (1)) rfl ?_
    exact hv_iret C M dL_simulate_17 rfl rfl (Sum.inr hx_IAE) hE (show some (Value.int (zI (mz_k1 (some hx_IAE)))) = some (Value.int (zI (1))) from congrArg (fun q => some (Value.int (zI q))) mz_k1s) [] hy_sw3 (Nat.le_of_eq (Nat.zero_add _)) (Nat.le_of_eq (Nat.zero_add _))
  · refine hv_perm (ws' := (o9, .inl (dA 4, 1, .inr (.inl f))) :: w1 u) hy_sw.symm ?_
    refine hv_eqst (st' := [.int (zI (a9 u)), .int (zI (0)), .ref o9]) (by rw [hrv]; rfl) ?_
    refine hv_i2l C dL_simulate_9 (v := (zI (a9 u)).toInt64) rfl ?_
    refine hv_last C dL_simulate_10 0 rfl 0 rfl (by decide) (by decide) ?_
    refine hv_weq (ws' := (o9, .inl (dA 4, 1, .inr (.inl (vp_updL f 0 (zI (a9 u)).toInt64)))) :: w1 u) rfl ?_
    refine hv_goto C dL_simulate_11 (tgt := 18) (by decide) ?_
    refine hv_iconst C dL_simulate_18 (v := zI (0)) rfl ?_
    exact hv_iret C M dL_simulate_19 rfl rfl (Sum.inl u) hu rfl [] (List.Perm.of_eq (List.append_nil _).symm) (Nat.le_of_eq (Nat.zero_add _)) (Nat.le_of_eq (Nat.zero_add _))

set_option maxHeartbeats 4000000 in
set_option maxRecDepth 100000 in
theorem k_L_save (l : Launch) (D : va_G) (dA : Nat → ClassId) (sa : Nat → Nat) (hst : l.stackTraces = false) {S : Type} {wc : va_W} {mc ms : Nat} {rv : S → Option Value} {post : S → Prop} {w1 : S → va_W} {PX : String → Prop} {fs : List Value} (xx o9 : Nat) (z : Int) (f : Nat → Int64) (a9 : S → Int) (hM : hx_Ct l yX8_save (hw_W yX8_save cX8_save 3 (some .int)) 44 D dA sa [.ref xx, .int (zI (z))] wc mc ms rv post w1 PX) (hrv : ∀ u, rv u = some (.int (zI (a9 u)))) (hq : wc[0]? = some (xx, .inr (6, fs))) (hPX : ∀ E, PX E → E = hx_IOE) : hy_Ct l yL_save (hw_H yL_save cL_save 4 (some .int) [(0, 9, 12, 27)]) 45 D dA sa [.ref xx, .int (zI (z)), .ref o9] ((o9, .inl (dA 4, 1, .inr (.inl f))) :: wc) mc ms (S := S ⊕ String) (Sum.elim (fun _ => some (.int (zI 0))) (fun E => some (.int (zI (mz_k1 (some E)))))) (Sum.elim post PX) (Sum.elim (fun u => (o9, .inl (dA 4, 1, .inr (.inl (vp_updL f 0 (zI (a9 u)).toInt64)))) :: w1 u) (fun _ => (o9, .inl (dA 4, 1, .inr (.inl f))) :: wc)) := by
  refine hy_of (own := RL) (cc := cL_save) (maxL := 4) (ret := some .int) (hh := [(0, 9, 12, 27)]) tw_k_X8_save hst rfl rfl (by decide) (Nat.le_of_ble_eq_true rfl) ?_
  intro p e s m args below meth c C X M
  refine hv_lveq (lv' := [(0, .ref xx), (1, .int (zI (z))), (2, .ref o9)]) rfl ?_
  refine hv_aload_n C dL_save_0 2 rfl ?_
  refine hv_iconst C dL_save_1 (v := zI (0)) rfl ?_
  refine hv_aload_n C dL_save_2 0 rfl ?_
  refine hv_iload_n C dL_save_3 1 rfl ?_
  refine hy_callV (As := [.int (zI (z))]) (rest := [.int (zI (0)), .ref o9]) (wc := wc) (wr := [(o9, .inl (dA 4, 1, .inr (.inl f)))]) C X hM (cwV 1 C.1.2.2.2.2 (hw_V tw_m_RL_70 tw_i_X8_save tw_s_X8_save tw_n_RX8 tw_k_X8_save) rfl rfl rfl (by decide +kernel) ⟨Nat.le_of_ble_eq_true rfl, Nat.le_of_ble_eq_true rfl⟩) hy_sw rfl 0 6 hq rfl rfl (Nat.le_of_ble_eq_true rfl) dL_save_4 ⟨Nat.le_of_eq (Nat.zero_add _), Nat.le_of_eq (Nat.zero_add _)⟩ (fun E q9 hE => ?_) (fun u hu => ?_)
  · have e9 := hPX E hE
    subst e9
    refine hy_h C X (by decide +kernel) [] ⟨0, 9, 12, 27⟩ [] rfl (fun z hz => absurd hz List.not_mem_nil) (by decide) (by decide) (hw_c tw_c_RL_27) ?_
    refine hv_astore_n C dL_save_12 (lw := [(3, .ref q9), (0, .ref xx), (1, .int (zI (z))), (2, .ref o9)]) (by decide) rfl ?_
    refine hv_iconst C dL_save_13 (v := zI (1)) rfl ?_
    exact hv_iret C M dL_save_14 rfl rfl (Sum.inr hx_IOE) hE (show some (Value.int (zI (mz_k1 (some hx_IOE)))) = some (Value.int (zI (1))) from congrArg (fun q => some (Value.int (zI q))) mz_k1s) [] hy_sw3 (Nat.le_of_eq (Nat.zero_add _)) (Nat.le_of_eq (Nat.zero_add _))
  · refine hv_perm (ws' := (o9, .inl (dA 4, 1, .inr (.inl f))) :: w1 u) hy_sw.symm ?_
    refine hv_eqst (st' := [.int (zI (a9 u)), .int (zI (0)), .ref o9]) (by rw [hrv]; rfl) ?_
    refine hv_i2l C dL_save_7 (v := (zI (a9 u)).toInt64) rfl ?_
    refine hv_last C dL_save_8 0 rfl 0 rfl (by decide) (by decide) ?_
    refine hv_weq (ws' := (o9, .inl (dA 4, 1, .inr (.inl (vp_updL f 0 (zI (a9 u)).toInt64)))) :: w1 u) rfl ?_
    refine hv_goto C dL_save_9 (tgt := 15) (by decide) ?_
    refine hv_iconst C dL_save_15 (v := zI (0)) rfl ?_
    exact hv_iret C M dL_save_16 rfl rfl (Sum.inl u) hu rfl [] (List.Perm.of_eq (List.append_nil _).symm) (Nat.le_of_eq (Nat.zero_add _)) (Nat.le_of_eq (Nat.zero_add _))

set_option maxHeartbeats 4000000 in
set_option maxRecDepth 100000 in
theorem k_L_restore (l : Launch) (D : va_G) (dA : Nat → ClassId) (sa : Nat → Nat) (hst : l.stackTraces = false) {S : Type} {wc : va_W} {mc ms : Nat} {rv : S → Option Value} {post : S → Prop} {w1 : S → va_W} {PX : String → Prop} {fs : List Value} (xx o9 : Nat) (z : Int) (f : Nat → Int64) (a9 : S → Int) (hM : hx_Ct l yX8_restore (hw_W yX8_restore cX8_restore 3 (some .int)) 44 D dA sa [.ref xx, .int (zI (z))] wc mc ms rv post w1 PX) (hrv : ∀ u, rv u = some (.int (zI (a9 u)))) (hq : wc[0]? = some (xx, .inr (6, fs))) (hPX : ∀ E, PX E → E = hx_IOE ∨ E = hx_ISE) : hy_Ct l yL_restore (hw_H yL_restore cL_restore 4 (some .int) [(0, 9, 12, 27), (0, 9, 15, 15)]) 45 D dA sa [.ref xx, .int (zI (z)), .ref o9] ((o9, .inl (dA 4, 1, .inr (.inl f))) :: wc) mc ms (S := S ⊕ String) (Sum.elim (fun _ => some (.int (zI 0))) (fun E => some (.int (zI (mz_k2 hx_IOE (some E)))))) (Sum.elim post PX) (Sum.elim (fun u => (o9, .inl (dA 4, 1, .inr (.inl (vp_updL f 0 (zI (a9 u)).toInt64)))) :: w1 u) (fun _ => (o9, .inl (dA 4, 1, .inr (.inl f))) :: wc)) := by
  refine hy_of (own := RL) (cc := cL_restore) (maxL := 4) (ret := some .int) (hh := [(0, 9, 12, 27), (0, 9, 15, 15)]) tw_k_X8_restore hst rfl rfl (by decide) (Nat.le_of_ble_eq_true rfl) ?_
  intro p e s m args below meth c C X M
  refine hv_lveq (lv' := [(0, .ref xx), (1, .int (zI (z))), (2, .ref o9)]) rfl ?_
  refine hv_aload_n C dL_restore_0 2 rfl ?_
  refine hv_iconst C dL_restore_1 (v := zI (0)) rfl ?_
  refine hv_aload_n C dL_restore_2 0 rfl ?_
  refine hv_iload_n C dL_restore_3 1 rfl ?_
  refine hy_callV (As := [.int (zI (z))]) (rest := [.int (zI (0)), .ref o9]) (wc := wc) (wr := [(o9, .inl (dA 4, 1, .inr (.inl f)))]) C X hM (cwV 1 C.1.2.2.2.2 (hw_V tw_m_RL_73 tw_i_X8_restore tw_s_X8_restore tw_n_RX8 tw_k_X8_restore) rfl rfl rfl (by decide +kernel) ⟨Nat.le_of_ble_eq_true rfl, Nat.le_of_ble_eq_true rfl⟩) hy_sw rfl 0 6 hq rfl rfl (Nat.le_of_ble_eq_true rfl) dL_restore_4 ⟨Nat.le_of_eq (Nat.zero_add _), Nat.le_of_eq (Nat.zero_add _)⟩ (fun E q9 hE => ?_) (fun u hu => ?_)
  · rcases hPX E hE with e9 | e9
    · subst e9
      refine hy_h C X (by decide +kernel) [] ⟨0, 9, 12, 27⟩ [⟨0, 9, 15, 15⟩] rfl (fun z hz => absurd hz List.not_mem_nil) (by decide) (by decide) (hw_c tw_c_RL_27) ?_
      refine hv_astore_n C dL_restore_12 (lw := [(3, .ref q9), (0, .ref xx), (1, .int (zI (z))), (2, .ref o9)]) (by decide) rfl ?_
      refine hv_iconst C dL_restore_13 (v := zI (1)) rfl ?_
      exact hv_iret C M dL_restore_14 rfl rfl (Sum.inr hx_IOE) hE (show some (Value.int (zI (mz_k2 hx_IOE (some hx_IOE)))) = some (Value.int (zI (1))) from congrArg (fun q => some (Value.int (zI q))) mz_k2a) [] hy_sw3 (Nat.le_of_eq (Nat.zero_add _)) (Nat.le_of_eq (Nat.zero_add _))
    · subst e9
      refine hy_h C X (by decide +kernel) [⟨0, 9, 12, 27⟩] ⟨0, 9, 15, 15⟩ [] rfl (fun z hz => by simp only [List.mem_cons, List.not_mem_nil, or_false] at hz; subst hz; exact ⟨hx_IOE, by decide +kernel, hx_23, by decide, hw_c tw_c_RL_27⟩) (by decide) (by decide) (hw_c tw_c_RL_15) ?_
      refine hv_astore_n C dL_restore_15 (lw := [(3, .ref q9), (0, .ref xx), (1, .int (zI (z))), (2, .ref o9)]) (by decide) rfl ?_
      refine hv_iconst C dL_restore_16 (v := zI (2)) rfl ?_
      exact hv_iret C M dL_restore_17 rfl rfl (Sum.inr hx_ISE) hE (show some (Value.int (zI (mz_k2 hx_IOE (some hx_ISE)))) = some (Value.int (zI (2))) from congrArg (fun q => some (Value.int (zI q))) (mz_k2b hx_23)) [] hy_sw3 (Nat.le_of_eq (Nat.zero_add _)) (Nat.le_of_eq (Nat.zero_add _))
  · refine hv_perm (ws' := (o9, .inl (dA 4, 1, .inr (.inl f))) :: w1 u) hy_sw.symm ?_
    refine hv_eqst (st' := [.int (zI (a9 u)), .int (zI (0)), .ref o9]) (by rw [hrv]; rfl) ?_
    refine hv_i2l C dL_restore_7 (v := (zI (a9 u)).toInt64) rfl ?_
    refine hv_last C dL_restore_8 0 rfl 0 rfl (by decide) (by decide) ?_
    refine hv_weq (ws' := (o9, .inl (dA 4, 1, .inr (.inl (vp_updL f 0 (zI (a9 u)).toInt64)))) :: w1 u) rfl ?_
    refine hv_goto C dL_restore_9 (tgt := 18) (by decide) ?_
    refine hv_iconst C dL_restore_18 (v := zI (0)) rfl ?_
    exact hv_iret C M dL_restore_19 rfl rfl (Sum.inl u) hu rfl [] (List.Perm.of_eq (List.append_nil _).symm) (Nat.le_of_eq (Nat.zero_add _)) (Nat.le_of_eq (Nat.zero_add _))

theorem xe_or {a b : Option String} {E : String} (h : xc_or a b = some E) : a = some E ∨ b = some E := by
  cases a with
  | none => exact Or.inr h
  | some F => exact Or.inl h
theorem xe_app {n : Nat} {z : Int} : ∀ E, xc_app n z = some E → E = hx_IAE ∨ E = hx_ISE := fun E h => by unfold xc_app at h; (repeat' split at h) <;> cases h <;> first | rfl | exact Or.inl rfl | exact Or.inr rfl | exact Or.inr (Or.inl rfl) | exact Or.inr (Or.inr rfl)
theorem xe_stem {g : Nat → Int} {z : Int} : ∀ E, xc_stem g z = some E → E = hx_IOE := fun E h => by unfold xc_stem at h; (repeat' split at h) <;> cases h <;> first | rfl | exact Or.inl rfl | exact Or.inr rfl | exact Or.inr (Or.inl rfl) | exact Or.inr (Or.inr rfl)
theorem xe_req {g : Nat → Int} {a b k : Int} : ∀ E, xc_req g a b k = some E → E = hx_IOE ∨ E = hx_IAE := fun E h => by
  unfold xc_req at h
  rcases xe_or h with h | h
  · exact Or.inl (xe_stem E h)
  · rcases xe_or h with h | h
    · exact Or.inl (xe_stem E h)
    · (repeat' split at h) <;> cases h <;> first | rfl | exact Or.inl rfl | exact Or.inr rfl | exact Or.inr (Or.inl rfl) | exact Or.inr (Or.inr rfl)
theorem xe_set {z : Int} : ∀ E, xc_set z = some E → E = hx_IAE := fun E h => by unfold xc_set at h; (repeat' split at h) <;> cases h <;> first | rfl | exact Or.inl rfl | exact Or.inr rfl | exact Or.inr (Or.inl rfl) | exact Or.inr (Or.inr rfl)
theorem xe_gar {a b : Int} : ∀ E, xc_gar a b = some E → E = hx_IOE ∨ E = hx_IAE := fun E h => by unfold xc_gar at h; (repeat' split at h) <;> cases h <;> first | rfl | exact Or.inl rfl | exact Or.inr rfl | exact Or.inr (Or.inl rfl) | exact Or.inr (Or.inr rfl)
theorem xe_plant {a b : Int} : ∀ E, xc_plant a b = some E → E = hx_IAE := fun E h => by unfold xc_plant at h; (repeat' split at h) <;> cases h <;> first | rfl | exact Or.inl rfl | exact Or.inr rfl | exact Or.inr (Or.inl rfl) | exact Or.inr (Or.inr rfl)
theorem xe_clip {g : Nat → Int} {a b k : Int} : ∀ E, xc_clip g a b k = some E → E = hx_IOE ∨ E = hx_IAE ∨ E = hx_ISE := fun E h => by
  unfold xc_clip at h
  rcases xe_or h with h | h
  · exact (xe_req E h).elim Or.inl (fun q => Or.inr (Or.inl q))
  · (repeat' split at h) <;> cases h <;> first | rfl | exact Or.inl rfl | exact Or.inr rfl | exact Or.inr (Or.inl rfl) | exact Or.inr (Or.inr rfl)
theorem xe_wat {g : Nat → Int} {z : Int} : ∀ E, xc_wat g z = some E → E = hx_IOE ∨ E = hx_ISE := fun E h => by
  unfold xc_wat at h
  rcases xe_or h with h | h
  · exact Or.inl (xe_stem E h)
  · (repeat' split at h) <;> cases h <;> first | rfl | exact Or.inl rfl | exact Or.inr rfl | exact Or.inr (Or.inl rfl) | exact Or.inr (Or.inr rfl)
theorem xe_wind {z : Int} : ∀ E, xc_wind z = some E → E = hx_IAE := fun E h => by unfold xc_wind at h; (repeat' split at h) <;> cases h <;> first | rfl | exact Or.inl rfl | exact Or.inr rfl | exact Or.inr (Or.inl rfl) | exact Or.inr (Or.inr rfl)
theorem xe_sett {a v : Int} : ∀ E, xc_sett a v = some E → E = hx_IAE := fun E h => by
  unfold xc_sett at h
  rcases xe_or h with h | h
  · exact xe_set E h
  · (repeat' split at h) <;> cases h <;> first | rfl | exact Or.inl rfl | exact Or.inr rfl | exact Or.inr (Or.inl rfl) | exact Or.inr (Or.inr rfl)
theorem xe_undo {n : Nat} : ∀ E, xc_undo n = some E → E = hx_ISE := fun E h => by unfold xc_undo at h; (repeat' split at h) <;> cases h <;> first | rfl | exact Or.inl rfl | exact Or.inr rfl | exact Or.inr (Or.inl rfl) | exact Or.inr (Or.inr rfl)
theorem xe_abo {z : Int} : ∀ E, xc_abo z = some E → E = hx_IAE := fun E h => by unfold xc_abo at h; (repeat' split at h) <;> cases h <;> first | rfl | exact Or.inl rfl | exact Or.inr rfl | exact Or.inr (Or.inl rfl) | exact Or.inr (Or.inr rfl)
theorem xe_slot {z : Int} : ∀ E, xc_slot z = some E → E = hx_IOE := fun E h => by unfold xc_slot at h; (repeat' split at h) <;> cases h <;> first | rfl | exact Or.inl rfl | exact Or.inr rfl | exact Or.inr (Or.inl rfl) | exact Or.inr (Or.inr rfl)
theorem xe_rest {sal : Nat → Bool} {z : Int} : ∀ E, xc_rest sal z = some E → E = hx_IOE ∨ E = hx_ISE := fun E h => by
  unfold xc_rest at h
  rcases xe_or h with h | h
  · exact Or.inl (xe_slot E h)
  · (repeat' split at h) <;> cases h <;> first | rfl | exact Or.inl rfl | exact Or.inr rfl | exact Or.inr (Or.inl rfl) | exact Or.inr (Or.inr rfl)
theorem xe_ifc {g : Nat → Int} {a b k v : Int} : ∀ E, xc_ifc g a b k v = some E → E = hx_IOE ∨ E = hx_IAE := fun E h => by
  unfold xc_ifc at h
  rcases xe_or h with h | h
  · exact xe_req E h
  · (repeat' split at h) <;> cases h <;> first | rfl | exact Or.inl rfl | exact Or.inr rfl | exact Or.inr (Or.inl rfl) | exact Or.inr (Or.inr rfl)
theorem xe_go {a b : Int} : ∀ E, xc_go a b = some E → E = hx_IAE := fun E h => by unfold xc_go at h; (repeat' split at h) <;> cases h <;> first | rfl | exact Or.inl rfl | exact Or.inr rfl | exact Or.inr (Or.inl rfl) | exact Or.inr (Or.inr rfl)
theorem xe_sim {z : Int} : ∀ E, xc_sim z = some E → E = hx_IAE := fun E h => by unfold xc_sim at h; (repeat' split at h) <;> cases h <;> first | rfl | exact Or.inl rfl | exact Or.inr rfl | exact Or.inr (Or.inl rfl) | exact Or.inr (Or.inr rfl)
theorem xe_run {z : Int} {x : Int64} : ∀ E, xc_run z x = some E → E = hx_IAE := fun E h => by unfold xc_run at h; (repeat' split at h) <;> cases h <;> first | rfl | exact Or.inl rfl | exact Or.inr rfl | exact Or.inr (Or.inl rfl) | exact Or.inr (Or.inr rfl)
theorem xe_load {n : Nat} {tx : Nat → Int} : ∀ E, xc_load n tx = some E → E = hx_ISE := fun E h => by unfold xc_load at h; (repeat' split at h) <;> cases h <;> first | rfl | exact Or.inl rfl | exact Or.inr rfl | exact Or.inr (Or.inl rfl) | exact Or.inr (Or.inr rfl)
