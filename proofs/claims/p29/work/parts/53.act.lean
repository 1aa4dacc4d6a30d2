/-! the law's own methods over one object: what is done, what is refused -/
section CUT
variable {p : Program} {l : Launch} {e : Env} {R : Room} {s : State} {m : MethodId} {args : Array Value} {below : List Frame} {meth : Method} {c : Code} {Q : State → Prop} {nL : Nat} {D : va_G} {A : Nat → Prop} {H0 : Heap} {ce sl : Nat} {ws : va_W} {lv : List (Nat × Value)} {st : List Value} {pc : Nat}
/-- a place where roads meet -/
theorem hv_cut {σ : Type} (I : σ → Prop) (fw : σ → va_W) (fl : σ → List (Nat × Value)) (st' : List Value) (pc' ce' sl' : Nat) (H : ∀ x, I x → hv_V p l e R s m args below meth c nL D A H0 Q ce' sl' (fw x) (fl x) st' pc') (K : (∀ x, I x → hv_V p l e R s m args below meth c nL D A H0 Q ce' sl' (fw x) (fl x) st' pc') → hv_V p l e R s m args below meth c nL D A H0 Q ce sl ws lv st pc) : hv_V p l e R s m args below meth c nL D A H0 Q ce sl ws lv st pc := K H
end CUT
theorem sh_p {z : Int} (h : 0 ≤ z ∧ z < 8) : zI 1 <<< (zI (2 * z) &&& 31) = zI ((4 ^ z.toNat : Nat) : Int) := by
  have h1 := sp_sh1 z.toNat (by omega)
  rw [Int.toNat_of_nonneg h.1] at h1
  exact h1
theorem p4_ran {z : Int} (h : 0 ≤ z ∧ z < 8) : 0 < ((4 ^ z.toNat : Nat) : Int) ∧ ((4 ^ z.toNat : Nat) : Int) ≤ 16384 := by
  have h1 : 4 ^ z.toNat ≤ 4 ^ 7 := Nat.pow_le_pow_right (by decide) (by omega)
  have h2 : 0 < 4 ^ z.toNat := Nat.pow_pos (by decide)
  generalize 4 ^ z.toNat = y at h1 h2 ⊢
  omega
def ac_i (L : ob_L) (x : Int) : Int := x / 16 % lg L 0
def ac_w (L : ob_L) (x : Int) : Int := x / 16 / 8 % lg L 5
def ac_q (x : Int) : Int := x / 16 / 3 % ((4 ^ (2 + x / 16 % 3).toNat : Nat) : Int)
theorem ac_i_ran {L : ob_L} (hJ : ob_J L) (x : Int) : 0 ≤ ac_i L x ∧ ac_i L x < lg L 0 := by
  have h := hJ.1.1
  exact ⟨Int.emod_nonneg _ (by omega), Int.emod_lt_of_pos _ (by omega)⟩
theorem ac_w_ran {L : ob_L} (hJ : ob_J L) (x : Int) : 0 ≤ ac_w L x ∧ ac_w L x < lg L 5 := by
  have h := hJ.1.2.2.2.2.2
  exact ⟨Int.emod_nonneg _ (by omega), Int.emod_lt_of_pos _ (by omega)⟩
theorem ac_q_ran (x : Int) : 0 ≤ ac_q x ∧ ac_q x < 16384 := by
  have h := p4_ran (z := 2 + x / 16 % 3) (by omega)
  exact ⟨Int.emod_nonneg _ (by omega), Int.lt_of_lt_of_le (Int.emod_lt_of_pos _ (by omega)) h.2⟩
/-- what is done with a hedge: the answer, and the state behind -/
def ac (L : ob_L) (x : Int) : Int × ob_L :=
  if x % 16 = 0 then (an_plant L (2 + x / 16 % 3) (ac_q x), st_plant L (2 + x / 16 % 3) (ac_q x))
  else if x % 16 ≤ 4 then (an_water L (ac_i L x), st_water L (ac_i L x))
  else if x % 16 = 5 then (an_wind L (x / 16 % 3), st_wind L (x / 16 % 3))
  else if x % 16 = 6 then (1 - lg L 3, ob_keep L (ox_ps (lg L)))
  else if x % 16 = 7 then (if x / 16 % 2 = 0 then (an_lay L (x / 16 % 2) (1 + x / 16 / 2 % 9), st_lay L (x / 16 % 2) (1 + x / 16 / 2 % 9)) else (an_lay L (x / 16 % 2) (1 + x / 16 / 2 % 3), st_lay L (x / 16 % 2) (1 + x / 16 / 2 % 3)))
  else if x % 16 = 8 then (an_undo L, st_undo L)
  else if x % 16 = 9 then (if x / 16 % 2 = 0 then (an_keep L (x / 16 / 2 % 2), st_keep L (x / 16 / 2 % 2)) else (an_back L (x / 16 / 2 % 2), st_back L (x / 16 / 2 % 2)))
  else (an_clip L (ac_i L x) (ac_i L x + ac_w L x) (1 + x / 16 / 32 % 3), st_clip L (ac_i L x) (ac_i L x + ac_w L x) (1 + x / 16 / 32 % 3))
theorem ac_J {L : ob_L} (hJ : ob_J L) (x : Int) : ob_J (ac L x).2 := by
  unfold ac
  split
  · exact ob_J_plant hJ _ _ 0
  split
  · exact ob_J_water hJ _ 0 0
  split
  · exact ob_J_wind hJ _ 0 0
  split
  · exact ob_J_keep hJ (WF_ps hJ.1)
  split
  · split
    · exact ob_J_lay hJ _ _ 0
    · exact ob_J_lay hJ _ _ 0
  split
  · exact ob_J_undo hJ 0 0 0
  split
  · split
    · exact ob_J_keeps hJ _ 0 0
    · exact ob_J_back hJ _ 0 0
  · exact ob_J_clip hJ _ _ _
def ob_B (N : Int) (L : ob_L) : Prop := ob_A (FB N) L
theorem ob_B_mono {N M : Int} (hNM : N ≤ M) {L : ob_L} (h : ob_B N L) : ob_B M L := ob_A_mono (fun _ => FB_mono hNM) h
theorem ob_B_st {N : Int} {L : ob_L} (hJ : ob_J L) (h : ob_B N L) (h0 : 0 ≤ N) (x : Option String) (g : Nat → Int) (hg : x = none → FB (N + 54) g) : ob_B (N + 54) (ob_st x (ob_keep L g) L) := by
  cases x with
  | some E => exact ob_B_mono (by omega) h
  | none => exact ob_A_keep hJ (ob_B_mono (by omega) h) (hg rfl)
theorem ac_B {N : Int} {L : ob_L} (hJ : ob_J L) (h : ob_B N L) (h0 : 0 ≤ N) (x : Int) : ob_B (N + 54) (ac L x).2 := by
  have h1 : FB (N + 54) (lg L) := FB_mono (by omega) h.1
  have h2 : ob_B (N + 54) L := ob_B_mono (by omega) h
  have h3 : FB (N + 54) (fun _ => 0) := ⟨⟨Int.le_refl 0, (by show 0 ≤ N + 54; omega)⟩, Int.le_refl 0, (by show 0 ≤ N + 54; omega)⟩
  unfold ac
  split
  · exact ob_B_st hJ h h0 _ _ (fun _ => h3)
  split
  · exact ob_B_st hJ h h0 _ _ (fun _ => h1)
  split
  · exact ob_B_st hJ h h0 _ _ (fun _ => h1)
  split
  · exact ob_A_keep hJ h2 h1
  split
  · split
    · exact ob_B_st hJ h h0 _ _ (fun _ => by split <;> exact h1)
    · exact ob_B_st hJ h h0 _ _ (fun _ => by split <;> exact h1)
  split
  · exact ob_A_undo hJ h2
  split
  · split
    · exact ob_A_keeps h2 _
    · exact ob_A_back h2 _
  · exact ob_B_st hJ h h0 _ _ (fun _ => FB_clip hJ.1 h.1 _)

set_option maxHeartbeats 4000000 in
set_option maxRecDepth 100000 in
theorem k_L_act (l : Launch) (D : va_G) (dA : Nat → ClassId) (sa : Nat → Nat) (hst : l.stackTraces = false) (a : Nat → Nat) (L : ob_L) (h : ob_H) (hJ : ob_J L) (hk0 : ob_k h) (x : Int) (hx : 0 ≤ x ∧ x < 2147483648) : hy_Ct l yL_act (hw_W yL_act cL_act 6 (some .int)) 47 D dA sa [.ref (a 0), .int (zI (x))] (ob_W dA a L h) 8 44 (S := ob_H) (fun _ => some (.int (zI (ac L x).1))) (fun u => ob_k u) (fun u => ob_W dA a (ac L x).2 u) := by
  have hg0 := hJ.1.1
  have hg5 := hJ.1.2.2.2.2.2
  have hir := ac_i_ran hJ x
  have hwr := ac_w_ran hJ x
  refine hz_of (own := RL) (cc := cL_act) (maxL := 6) (ret := (some .int)) rfl (by decide) rfl (Nat.le_of_ble_eq_true rfl) ?_
  intro p e s m args below meth c C X M
  refine hv_lveq (lv' := [(0, .ref (a 0)), (1, .int (zI (x)))]) rfl ?_
  refine hv_iload_n C dL_act_0 1 rfl ?_
  refine hv_bipush C dL_act_1 (v := zI (16)) (by decide +kernel) ?_
  refine hv_idiv C dL_act_3 (z := zI (x / 16)) ((zI_ne0 (by omega)).mpr (by omega)) ((zI_div (by omega)).trans (zI_c (by omega))) ?_
  refine hv_istore_n C dL_act_4 (lw := [(2, .int (zI (x / 16))), (0, .ref (a 0)), (1, .int (zI (x)))]) (by decide) rfl ?_
  refine hv_aload_n C dL_act_5 1 rfl ?_
  refine hv_iconst C dL_act_6 (v := zI (2)) rfl ?_
  refine hv_iconst C dL_act_7 (v := zI (0)) rfl ?_
  refine hv_iconst C dL_act_8 (v := zI (0)) rfl ?_
  refine hv_iconst C dL_act_9 (v := zI (0)) rfl ?_
  refine hz_callS (As := [.ref (a 0), .int (zI (2)), .int (zI (0)), .int (zI (0)), .int (zI (0))]) (rest := []) (wc := ob_W dA a L h) (wr := []) C X (k_C_about l D dA sa hst a L h hJ hk0 (0) (by decide) (0) (0) (by decide)) (va_cwS 5 C.1.2.2.2.2 (hw_S tw_m_RL_132 tw_t_L_call tw_n_RL tw_k_L_call) rfl rfl rfl (by decide +kernel) ⟨Nat.le_of_ble_eq_true rfl, Nat.le_of_ble_eq_true rfl⟩) (List.Perm.of_eq (List.append_nil _).symm) rfl rfl (Nat.le_of_ble_eq_true rfl) dL_act_10 ⟨Nat.le_of_ble_eq_true rfl, Nat.le_of_ble_eq_true rfl⟩ (fun u1 hu1 => ?_)
  refine hv_weq (ws' := ob_W dA a L u1) (List.append_nil _) ?_
  refine hv_eqst (st' := [.int (zI (an_about L (0)))]) rfl ?_
  refine hv_topi (y := zI (lg L 0)) (by rw [show an_about L (0) = lg L 0 from an_abo0 L]) ?_
  refine hv_istore_n C dL_act_13 (lw := [(3, .int (zI (lg L 0))), (2, .int (zI (x / 16))), (0, .ref (a 0)), (1, .int (zI (x)))]) (by decide) rfl ?_
  refine hv_aload_n C dL_act_14 2 rfl ?_
  refine hv_iconst C dL_act_15 (v := zI (5)) rfl ?_
  refine hv_iconst C dL_act_16 (v := zI (1)) rfl ?_
  refine hv_iconst C dL_act_17 (v := zI (0)) rfl ?_
  refine hv_iconst C dL_act_18 (v := zI (0)) rfl ?_
  refine hz_callS (As := [.ref (a 0), .int (zI (5)), .int (zI (1)), .int (zI (0)), .int (zI (0))]) (rest := []) (wc := ob_W dA a L u1) (wr := []) C X (k_C_setting l D dA sa hst a L u1 hJ hu1.1 (1) (by decide) (0) (0)) (va_cwS 5 C.1.2.2.2.2 (hw_S tw_m_RL_132 tw_t_L_call tw_n_RL tw_k_L_call) rfl rfl rfl (by decide +kernel) ⟨Nat.le_of_ble_eq_true rfl, Nat.le_of_ble_eq_true rfl⟩) (List.Perm.of_eq (List.append_nil _).symm) rfl rfl (Nat.le_of_ble_eq_true rfl) dL_act_19 ⟨Nat.le_of_ble_eq_true rfl, Nat.le_of_ble_eq_true rfl⟩ (fun u2 hu2 => ?_)
  refine hv_weq (ws' := ob_W dA a L u2) (List.append_nil _) ?_
  refine hv_eqst (st' := [.int (zI (an_setting L (1)))]) rfl ?_
  refine hv_topi (y := zI (lg L 5)) (by rw [show an_setting L (1) = lg L 5 from an_set1 L]) ?_
  refine hv_istore C dL_act_22 (lw := [(4, .int (zI (lg L 5))), (3, .int (zI (lg L 0))), (2, .int (zI (x / 16))), (0, .ref (a 0)), (1, .int (zI (x)))]) (by decide) rfl ?_
  refine hv_iload_n C dL_act_24 2 rfl ?_
  refine hv_iload_n C dL_act_25 1 rfl ?_
  refine hv_irem C dL_act_26 (z := zI (ac_i L x)) ((zI_ne0 (by omega)).mpr (by omega)) ((zI_rem (by omega)).trans (zI_c (by rfl))) ?_
  refine hv_istore C dL_act_27 (lw := [(5, .int (zI (ac_i L x))), (4, .int (zI (lg L 5))), (3, .int (zI (lg L 0))), (2, .int (zI (x / 16))), (0, .ref (a 0)), (1, .int (zI (x)))]) (by decide) rfl ?_
  refine hv_iload_n C dL_act_29 5 rfl ?_
  refine hv_bipush C dL_act_30 (v := zI (16)) (by decide +kernel) ?_
  refine hv_irem C dL_act_32 (z := zI (x % 16)) ((zI_ne0 (by omega)).mpr (by omega)) ((zI_rem (by omega)).trans (zI_c (by omega))) ?_
  rcases (show x % 16 = 0 ∨ x % 16 = 1 ∨ x % 16 = 2 ∨ x % 16 = 3 ∨ x % 16 = 4 ∨ x % 16 = 5 ∨ x % 16 = 6 ∨ x % 16 = 7 ∨ x % 16 = 8 ∨ x % 16 = 9 ∨ 10 ≤ x % 16 by omega) with hq | hq | hq | hq | hq | hq | hq | hq | hq | hq | hq
  · refine hv_topi (y := zI (0)) (by rw [hq]) ?_
    refine hv_tabIn C dL_act_33 (by decide) (by decide) rfl (tgt := 88) (by decide) ?_
    refine hv_aload_n C dL_act_88 4 rfl ?_
    refine hv_bipush C dL_act_89 (v := zI (6)) (by decide +kernel) ?_
    refine hv_iconst C dL_act_91 (v := zI (2)) rfl ?_
    refine hv_iload_n C dL_act_92 3 rfl ?_
    refine hv_iconst C dL_act_93 (v := zI (3)) rfl ?_
    refine hv_irem C dL_act_94 (z := zI (x / 16 % 3)) ((zI_ne0 (by omega)).mpr (by omega)) ((zI_rem (by omega)).trans (zI_c (by omega))) ?_
    refine hv_iadd C dL_act_95 (z := zI (2 + x / 16 % 3)) ((zI_add _ _).trans (zI_c (by omega))) ?_
    refine hv_iload_n C dL_act_96 3 rfl ?_
    refine hv_iconst C dL_act_97 (v := zI (3)) rfl ?_
    refine hv_idiv C dL_act_98 (z := zI (x / 16 / 3)) ((zI_ne0 (by omega)).mpr (by omega)) ((zI_div (by omega)).trans (zI_c (by omega))) ?_
    refine hv_iconst C dL_act_99 (v := zI (1)) rfl ?_
    refine hv_iconst C dL_act_100 (v := zI (2)) rfl ?_
    refine hv_iconst C dL_act_101 (v := zI (2)) rfl ?_
    refine hv_iload_n C dL_act_102 3 rfl ?_
    refine hv_iconst C dL_act_103 (v := zI (3)) rfl ?_
    refine hv_irem C dL_act_104 (z := zI (x / 16 % 3)) ((zI_ne0 (by omega)).mpr (by omega)) ((zI_rem (by omega)).trans (zI_c (by omega))) ?_
    refine hv_iadd C dL_act_105 (z := zI (2 + x / 16 % 3)) ((zI_add _ _).trans (zI_c (by omega))) ?_
    refine hv_imul C dL_act_106 (z := zI (2 * (2 + x / 16 % 3))) ((zI_mul _ _).trans (zI_c (by omega))) ?_
    refine hv_ishl C dL_act_107 (z := zI (((4 ^ (2 + x / 16 % 3).toNat : Nat) : Int))) (by exact sh_p (by omega)) ?_
    have hp4 := p4_ran (z := 2 + x / 16 % 3) (by omega)
    refine hv_irem C dL_act_108 (z := zI (ac_q x)) ((zI_ne0 (by omega)).mpr (by omega)) ((zI_rem (by omega)).trans (zI_c (by rfl))) ?_
    refine hv_iconst C dL_act_109 (v := zI (0)) rfl ?_
    have hqr := ac_q_ran x
    refine hz_callS (As := [.ref (a 0), .int (zI (6)), .int (zI (2 + x / 16 % 3)), .int (zI (ac_q x)), .int (zI (0))]) (rest := []) (wc := ob_W dA a L u2) (wr := []) C X (k_C_plant l D dA sa hst a L u2 hJ hu2.1 (2 + x / 16 % 3) (by omega) (ac_q x) (by omega) (0)) (va_cwS 5 C.1.2.2.2.2 (hw_S tw_m_RL_132 tw_t_L_call tw_n_RL tw_k_L_call) rfl rfl rfl (by decide +kernel) ⟨Nat.le_of_ble_eq_true rfl, Nat.le_of_ble_eq_true rfl⟩) (List.Perm.of_eq (List.append_nil _).symm) rfl rfl (Nat.le_of_ble_eq_true rfl) dL_act_110 ⟨Nat.le_of_ble_eq_true rfl, Nat.le_of_ble_eq_true rfl⟩ (fun u3 hu3 => ?_)
    refine hv_weq (ws' := ob_W dA a (st_plant L (2 + x / 16 % 3) (ac_q x)) u3) (List.append_nil _) ?_
    refine hv_eqst (st' := [.int (zI (an_plant L (2 + x / 16 % 3) (ac_q x)))]) rfl ?_
    have hac := (show ac L x = (an_plant L (2 + x / 16 % 3) (ac_q x), st_plant L (2 + x / 16 % 3) (ac_q x)) by unfold ac; rw [if_pos (by omega)])
    refine hv_weq (ws' := ob_W dA a (ac L x).2 u3) (by rw [hac]) ?_
    exact hv_iret C M dL_act_113 rfl rfl u3 hu3.1 (by rw [hac]) [] (List.Perm.of_eq (List.append_nil _).symm) (Nat.le_of_ble_eq_true rfl) (Nat.le_of_ble_eq_true rfl)
  · refine hv_topi (y := zI (1)) (by rw [hq]) ?_
    refine hv_tabIn C dL_act_33 (by decide) (by decide) rfl (tgt := 114) (by decide) ?_
    refine hv_aload_n C dL_act_114 4 rfl ?_
    refine hv_bipush C dL_act_115 (v := zI (8)) (by decide +kernel) ?_
    refine hv_iload C dL_act_117 0 rfl ?_
    refine hv_iconst C dL_act_119 (v := zI (0)) rfl ?_
    refine hv_iconst C dL_act_120 (v := zI (0)) rfl ?_
    refine hz_callS (As := [.ref (a 0), .int (zI (8)), .int (zI (ac_i L x)), .int (zI (0)), .int (zI (0))]) (rest := []) (wc := ob_W dA a L u2) (wr := []) C X (k_C_water l D dA sa hst a L u2 hJ hu2.1 (ac_i L x) (by omega) (0) (0)) (va_cwS 5 C.1.2.2.2.2 (hw_S tw_m_RL_132 tw_t_L_call tw_n_RL tw_k_L_call) rfl rfl rfl (by decide +kernel) ⟨Nat.le_of_ble_eq_true rfl, Nat.le_of_ble_eq_true rfl⟩) (List.Perm.of_eq (List.append_nil _).symm) rfl rfl (Nat.le_of_ble_eq_true rfl) dL_act_121 ⟨Nat.le_of_ble_eq_true rfl, Nat.le_of_ble_eq_true rfl⟩ (fun u4 hu4 => ?_)
    refine hv_weq (ws' := ob_W dA a (st_water L (ac_i L x)) u4) (List.append_nil _) ?_
    refine hv_eqst (st' := [.int (zI (an_water L (ac_i L x)))]) rfl ?_
    have hac := (show ac L x = (an_water L (ac_i L x), st_water L (ac_i L x)) by unfold ac; rw [if_neg (by omega), if_pos (by omega)])
    refine hv_weq (ws' := ob_W dA a (ac L x).2 u4) (by rw [hac]) ?_
    exact hv_iret C M dL_act_124 rfl rfl u4 hu4.1 (by rw [hac]) [] (List.Perm.of_eq (List.append_nil _).symm) (Nat.le_of_ble_eq_true rfl) (Nat.le_of_ble_eq_true rfl)
  · refine hv_topi (y := zI (2)) (by rw [hq]) ?_
    refine hv_tabIn C dL_act_33 (by decide) (by decide) rfl (tgt := 114) (by decide) ?_
    refine hv_aload_n C dL_act_114 4 rfl ?_
    refine hv_bipush C dL_act_115 (v := zI (8)) (by decide +kernel) ?_
    refine hv_iload C dL_act_117 0 rfl ?_
    refine hv_iconst C dL_act_119 (v := zI (0)) rfl ?_
    refine hv_iconst C dL_act_120 (v := zI (0)) rfl ?_
    refine hz_callS (As := [.ref (a 0), .int (zI (8)), .int (zI (ac_i L x)), .int (zI (0)), .int (zI (0))]) (rest := []) (wc := ob_W dA a L u2) (wr := []) C X (k_C_water l D dA sa hst a L u2 hJ hu2.1 (ac_i L x) (by omega) (0) (0)) (va_cwS 5 C.1.2.2.2.2 (hw_S tw_m_RL_132 tw_t_L_call tw_n_RL tw_k_L_call) rfl rfl rfl (by decide +kernel) ⟨Nat.le_of_ble_eq_true rfl, Nat.le_of_ble_eq_true rfl⟩) (List.Perm.of_eq (List.append_nil _).symm) rfl rfl (Nat.le_of_ble_eq_true rfl) dL_act_121 ⟨Nat.le_of_ble_eq_true rfl, Nat.le_of_ble_eq_true rfl⟩ (fun u5 hu5 => ?_)
    refine hv_weq (ws' := ob_W dA a (st_water L (ac_i L x)) u5) (List.append_nil _) ?_
    refine hv_eqst (st' := [.int (zI (an_water L (ac_i L x)))]) rfl ?_
    have hac := (show ac L x = (an_water L (ac_i L x), st_water L (ac_i L x)) by unfold ac; rw [if_neg (by omega), if_pos (by omega)])
    refine hv_weq (ws' := ob_W dA a (ac L x).2 u5) (by rw [hac]) ?_
    exact hv_iret C M dL_act_124 rfl rfl u5 hu5.1 (by rw [hac]) [] (List.Perm.of_eq (List.append_nil _).symm) (Nat.le_of_ble_eq_true rfl) (Nat.le_of_ble_eq_true rfl)
  · refine hv_topi (y := zI (3)) (by rw [hq]) ?_
    refine hv_tabIn C dL_act_33 (by decide) (by decide) rfl (tgt := 114) (by decide) ?_
    refine hv_aload_n C dL_act_114 4 rfl ?_
    refine hv_bipush C dL_act_115 (v := zI (8)) (by decide +kernel) ?_
    refine hv_iload C dL_act_117 0 rfl ?_
    refine hv_iconst C dL_act_119 (v := zI (0)) rfl ?_
    refine hv_iconst C dL_act_120 (v := zI (0)) rfl ?_
    refine hz_callS (As := [.ref (a 0), .int (zI (8)), .int (zI (ac_i L x)), .int (zI (0)), .int (zI (0))]) (rest := []) (wc := ob_W dA a L u2) (wr := []) C X (k_C_water l D dA sa hst a L u2 hJ hu2.1 (ac_i L x) (by omega) (0) (0)) (va_cwS 5 C.1.2.2.2.2 (hw_S tw_m_RL_132 tw_t_L_call tw_n_RL tw_k_L_call) rfl rfl rfl (by decide +kernel) ⟨Nat.le_of_ble_eq_true rfl, Nat.le_of_ble_eq_true rfl⟩) (List.Perm.of_eq (List.append_nil _).symm) rfl rfl (Nat.le_of_ble_eq_true rfl) dL_act_121 ⟨Nat.le_of_ble_eq_true rfl, Nat.le_of_ble_eq_true rfl⟩ (fun u6 hu6 => ?_)
    refine hv_weq (ws' := ob_W dA a (st_water L (ac_i L x)) u6) (List.append_nil _) ?_
    refine hv_eqst (st' := [.int (zI (an_water L (ac_i L x)))]) rfl ?_
    have hac := (show ac L x = (an_water L (ac_i L x), st_water L (ac_i L x)) by unfold ac; rw [if_neg (by omega), if_pos (by omega)])
    refine hv_weq (ws' := ob_W dA a (ac L x).2 u6) (by rw [hac]) ?_
    exact hv_iret C M dL_act_124 rfl rfl u6 hu6.1 (by rw [hac]) [] (List.Perm.of_eq (List.append_nil _).symm) (Nat.le_of_ble_eq_true rfl) (Nat.le_of_ble_eq_true rfl)
  · refine hv_topi (y := zI (4)) (by rw [hq]) ?_
    refine hv_tabIn C dL_act_33 (by decide) (by decide) rfl (tgt := 114) (by decide) ?_
    refine hv_aload_n C dL_act_114 4 rfl ?_
    refine hv_bipush C dL_act_115 (v := zI (8)) (by decide +kernel) ?_
    refine hv_iload C dL_act_117 0 rfl ?_
    refine hv_iconst C dL_act_119 (v := zI (0)) rfl ?_
    refine hv_iconst C dL_act_120 (v := zI (0)) rfl ?_
    refine hz_callS (As := [.ref (a 0), .int (zI (8)), .int (zI (ac_i L x)), .int (zI (0)), .int (zI (0))]) (rest := []) (wc := ob_W dA a L u2) (wr := []) C X (k_C_water l D dA sa hst a L u2 hJ hu2.1 (ac_i L x) (by omega) (0) (0)) (va_cwS 5 C.1.2.2.2.2 (hw_S tw_m_RL_132 tw_t_L_call tw_n_RL tw_k_L_call) rfl rfl rfl (by decide +kernel) ⟨Nat.le_of_ble_eq_true rfl, Nat.le_of_ble_eq_true rfl⟩) (List.Perm.of_eq (List.append_nil _).symm) rfl rfl (Nat.le_of_ble_eq_true rfl) dL_act_121 ⟨Nat.le_of_ble_eq_true rfl, Nat.le_of_ble_eq_true rfl⟩ (fun u7 hu7 => ?_)
    refine hv_weq (ws' := ob_W dA a (st_water L (ac_i L x)) u7) (List.append_nil _) ?_
    refine hv_eqst (st' := [.int (zI (an_water L (ac_i L x)))]) rfl ?_
    have hac := (show ac L x = (an_water L (ac_i L x), st_water L (ac_i L x)) by unfold ac; rw [if_neg (by omega), if_pos (by omega)])
    refine hv_weq (ws' := ob_W dA a (ac L x).2 u7) (by rw [hac]) ?_
    exact hv_iret C M dL_act_124 rfl rfl u7 hu7.1 (by rw [hac]) [] (List.Perm.of_eq (List.append_nil _).symm) (Nat.le_of_ble_eq_true rfl) (Nat.le_of_ble_eq_true rfl)
  · refine hv_topi (y := zI (5)) (by rw [hq]) ?_
    refine hv_tabIn C dL_act_33 (by decide) (by decide) rfl (tgt := 125) (by decide) ?_
    refine hv_aload_n C dL_act_125 4 rfl ?_
    refine hv_bipush C dL_act_126 (v := zI (9)) (by decide +kernel) ?_
    refine hv_iload_n C dL_act_128 3 rfl ?_
    refine hv_iconst C dL_act_129 (v := zI (3)) rfl ?_
    refine hv_irem C dL_act_130 (z := zI (x / 16 % 3)) ((zI_ne0 (by omega)).mpr (by omega)) ((zI_rem (by omega)).trans (zI_c (by omega))) ?_
    refine hv_iconst C dL_act_131 (v := zI (0)) rfl ?_
    refine hv_iconst C dL_act_132 (v := zI (0)) rfl ?_
    refine hz_callS (As := [.ref (a 0), .int (zI (9)), .int (zI (x / 16 % 3)), .int (zI (0)), .int (zI (0))]) (rest := []) (wc := ob_W dA a L u2) (wr := []) C X (k_C_wind l D dA sa hst a L u2 hJ hu2.1 (x / 16 % 3) (by omega) (0) (0)) (va_cwS 5 C.1.2.2.2.2 (hw_S tw_m_RL_132 tw_t_L_call tw_n_RL tw_k_L_call) rfl rfl rfl (by decide +kernel) ⟨Nat.le_of_ble_eq_true rfl, Nat.le_of_ble_eq_true rfl⟩) (List.Perm.of_eq (List.append_nil _).symm) rfl rfl (Nat.le_of_ble_eq_true rfl) dL_act_133 ⟨Nat.le_of_ble_eq_true rfl, Nat.le_of_ble_eq_true rfl⟩ (fun u8 hu8 => ?_)
    refine hv_weq (ws' := ob_W dA a (st_wind L (x / 16 % 3)) u8) (List.append_nil _) ?_
    refine hv_eqst (st' := [.int (zI (an_wind L (x / 16 % 3)))]) rfl ?_
    have hac := (show ac L x = (an_wind L (x / 16 % 3), st_wind L (x / 16 % 3)) by unfold ac; rw [if_neg (by omega), if_neg (by omega), if_pos (by omega)])
    refine hv_weq (ws' := ob_W dA a (ac L x).2 u8) (by rw [hac]) ?_
    exact hv_iret C M dL_act_136 rfl rfl u8 hu8.1 (by rw [hac]) [] (List.Perm.of_eq (List.append_nil _).symm) (Nat.le_of_ble_eq_true rfl) (Nat.le_of_ble_eq_true rfl)
  · refine hv_topi (y := zI (6)) (by rw [hq]) ?_
    refine hv_tabIn C dL_act_33 (by decide) (by decide) rfl (tgt := 137) (by decide) ?_
    refine hv_aload_n C dL_act_137 4 rfl ?_
    refine hv_callV (As := []) (rest := []) (wc := ob_W dA a L u2) (wr := []) C (k_O_pass l D dA a L u2 hJ hu2.1) (cwV 0 C.1.2.2.2.2 (hw_V tw_m_RL_161 tw_i_X8_pass tw_s_X8_pass tw_n_RX8 tw_k_X8_pass) rfl rfl rfl (by decide +kernel) ⟨Nat.le_of_ble_eq_true rfl, Nat.le_of_ble_eq_true rfl⟩) (List.Perm.of_eq (List.append_nil _).symm) rfl 0 6 rfl rfl rfl (Nat.le_of_ble_eq_true rfl) dL_act_138 ⟨Nat.le_of_ble_eq_true rfl, Nat.le_of_ble_eq_true rfl⟩ (fun u9 hu9 => ?_)
    refine hv_weq (ws' := ob_W dA a (ob_keep L (ox_ps (lg L))) u9) (List.append_nil _) ?_
    refine hv_eqst (st' := [.int (zI (1 - (lg L) 3))]) rfl ?_
    have hac := (show ac L x = (1 - (lg L) 3, ob_keep L (ox_ps (lg L))) by unfold ac; rw [if_neg (by omega), if_neg (by omega), if_neg (by omega), if_pos (by omega)])
    refine hv_weq (ws' := ob_W dA a (ac L x).2 u9) (by rw [hac]) ?_
    exact hv_iret C M dL_act_141 rfl rfl u9 hu9.1 (by rw [hac]) [] (List.Perm.of_eq (List.append_nil _).symm) (Nat.le_of_ble_eq_true rfl) (Nat.le_of_ble_eq_true rfl)
  · refine hv_topi (y := zI (7)) (by rw [hq]) ?_
    refine hv_tabIn C dL_act_33 (by decide) (by decide) rfl (tgt := 142) (by decide) ?_
    refine hv_aload_n C dL_act_142 4 rfl ?_
    refine hv_bipush C dL_act_143 (v := zI (10)) (by decide +kernel) ?_
    refine hv_iload_n C dL_act_145 3 rfl ?_
    refine hv_iconst C dL_act_146 (v := zI (2)) rfl ?_
    refine hv_irem C dL_act_147 (z := zI (x / 16 % 2)) ((zI_ne0 (by omega)).mpr (by omega)) ((zI_rem (by omega)).trans (zI_c (by omega))) ?_
    refine hv_iload_n C dL_act_148 3 rfl ?_
    refine hv_iconst C dL_act_149 (v := zI (2)) rfl ?_
    refine hv_irem C dL_act_150 (z := zI (x / 16 % 2)) ((zI_ne0 (by omega)).mpr (by omega)) ((zI_rem (by omega)).trans (zI_c (by omega))) ?_
    refine hv_if_ne C dL_act_151 (tgt := 165) (by decide) (zI_ne0 (by omega)) (fun hc151 => ?_) (fun hc151 => ?_)
    · refine hv_iconst C dL_act_165 (v := zI (1)) rfl ?_
      refine hv_iload_n C dL_act_166 3 rfl ?_
      refine hv_iconst C dL_act_167 (v := zI (2)) rfl ?_
      refine hv_idiv C dL_act_168 (z := zI (x / 16 / 2)) ((zI_ne0 (by omega)).mpr (by omega)) ((zI_div (by omega)).trans (zI_c (by omega))) ?_
      refine hv_iconst C dL_act_169 (v := zI (3)) rfl ?_
      refine hv_irem C dL_act_170 (z := zI (x / 16 / 2 % 3)) ((zI_ne0 (by omega)).mpr (by omega)) ((zI_rem (by omega)).trans (zI_c (by omega))) ?_
      refine hv_iadd C dL_act_171 (z := zI (1 + x / 16 / 2 % 3)) ((zI_add _ _).trans (zI_c (by omega))) ?_
      refine hv_iconst C dL_act_172 (v := zI (0)) rfl ?_
      refine hz_callS (As := [.ref (a 0), .int (zI (10)), .int (zI (x / 16 % 2)), .int (zI (1 + x / 16 / 2 % 3)), .int (zI (0))]) (rest := []) (wc := ob_W dA a L u2) (wr := []) C X (k_C_lay l D dA sa hst a L u2 hJ hu2.1 (x / 16 % 2) (by omega) (1 + x / 16 / 2 % 3) (by omega) (0)) (va_cwS 5 C.1.2.2.2.2 (hw_S tw_m_RL_132 tw_t_L_call tw_n_RL tw_k_L_call) rfl rfl rfl (by decide +kernel) ⟨Nat.le_of_ble_eq_true rfl, Nat.le_of_ble_eq_true rfl⟩) (List.Perm.of_eq (List.append_nil _).symm) rfl rfl (Nat.le_of_ble_eq_true rfl) dL_act_173 ⟨Nat.le_of_ble_eq_true rfl, Nat.le_of_ble_eq_true rfl⟩ (fun u10 hu10 => ?_)
      refine hv_weq (ws' := ob_W dA a (st_lay L (x / 16 % 2) (1 + x / 16 / 2 % 3)) u10) (List.append_nil _) ?_
      refine hv_eqst (st' := [.int (zI (an_lay L (x / 16 % 2) (1 + x / 16 / 2 % 3)))]) rfl ?_
      have hac := (show ac L x = (an_lay L (x / 16 % 2) (1 + x / 16 / 2 % 3), st_lay L (x / 16 % 2) (1 + x / 16 / 2 % 3)) by unfold ac; rw [if_neg (by omega), if_neg (by omega), if_neg (by omega), if_neg (by omega), if_pos (by omega), if_neg (by omega)])
      refine hv_weq (ws' := ob_W dA a (ac L x).2 u10) (by rw [hac]) ?_
      exact hv_iret C M dL_act_176 rfl rfl u10 hu10.1 (by rw [hac]) [] (List.Perm.of_eq (List.append_nil _).symm) (Nat.le_of_ble_eq_true rfl) (Nat.le_of_ble_eq_true rfl)
    · refine hv_iconst C dL_act_154 (v := zI (1)) rfl ?_
      refine hv_iload_n C dL_act_155 3 rfl ?_
      refine hv_iconst C dL_act_156 (v := zI (2)) rfl ?_
      refine hv_idiv C dL_act_157 (z := zI (x / 16 / 2)) ((zI_ne0 (by omega)).mpr (by omega)) ((zI_div (by omega)).trans (zI_c (by omega))) ?_
      refine hv_bipush C dL_act_158 (v := zI (9)) (by decide +kernel) ?_
      refine hv_irem C dL_act_160 (z := zI (x / 16 / 2 % 9)) ((zI_ne0 (by omega)).mpr (by omega)) ((zI_rem (by omega)).trans (zI_c (by omega))) ?_
      refine hv_iadd C dL_act_161 (z := zI (1 + x / 16 / 2 % 9)) ((zI_add _ _).trans (zI_c (by omega))) ?_
      refine hv_goto C dL_act_162 (tgt := 172) (by decide) ?_
      refine hv_iconst C dL_act_172 (v := zI (0)) rfl ?_
      refine hz_callS (As := [.ref (a 0), .int (zI (10)), .int (zI (x / 16 % 2)), .int (zI (1 + x / 16 / 2 % 9)), .int (zI (0))]) (rest := []) (wc := ob_W dA a L u2) (wr := []) C X (k_C_lay l D dA sa hst a L u2 hJ hu2.1 (x / 16 % 2) (by omega) (1 + x / 16 / 2 % 9) (by omega) (0)) (va_cwS 5 C.1.2.2.2.2 (hw_S tw_m_RL_132 tw_t_L_call tw_n_RL tw_k_L_call) rfl rfl rfl (by decide +kernel) ⟨Nat.le_of_ble_eq_true rfl, Nat.le_of_ble_eq_true rfl⟩) (List.Perm.of_eq (List.append_nil _).symm) rfl rfl (Nat.le_of_ble_eq_true rfl) dL_act_173 ⟨Nat.le_of_ble_eq_true rfl, Nat.le_of_ble_eq_true rfl⟩ (fun u11 hu11 => ?_)
      refine hv_weq (ws' := ob_W dA a (st_lay L (x / 16 % 2) (1 + x / 16 / 2 % 9)) u11) (List.append_nil _) ?_
      refine hv_eqst (st' := [.int (zI (an_lay L (x / 16 % 2) (1 + x / 16 / 2 % 9)))]) rfl ?_
      have hac := (show ac L x = (an_lay L (x / 16 % 2) (1 + x / 16 / 2 % 9), st_lay L (x / 16 % 2) (1 + x / 16 / 2 % 9)) by unfold ac; rw [if_neg (by omega), if_neg (by omega), if_neg (by omega), if_neg (by omega), if_pos (by omega), if_pos (by omega)])
      refine hv_weq (ws' := ob_W dA a (ac L x).2 u11) (by rw [hac]) ?_
      exact hv_iret C M dL_act_176 rfl rfl u11 hu11.1 (by rw [hac]) [] (List.Perm.of_eq (List.append_nil _).symm) (Nat.le_of_ble_eq_true rfl) (Nat.le_of_ble_eq_true rfl)
  · refine hv_topi (y := zI (8)) (by rw [hq]) ?_
    refine hv_tabIn C dL_act_33 (by decide) (by decide) rfl (tgt := 177) (by decide) ?_
    refine hv_aload_n C dL_act_177 4 rfl ?_
    refine hv_bipush C dL_act_178 (v := zI (11)) (by decide +kernel) ?_
    refine hv_iconst C dL_act_180 (v := zI (0)) rfl ?_
    refine hv_iconst C dL_act_181 (v := zI (0)) rfl ?_
    refine hv_iconst C dL_act_182 (v := zI (0)) rfl ?_
    refine hz_callS (As := [.ref (a 0), .int (zI (11)), .int (zI (0)), .int (zI (0)), .int (zI (0))]) (rest := []) (wc := ob_W dA a L u2) (wr := []) C X (k_C_undo l D dA sa hst a L u2 hJ hu2.1 (0) (0) (0)) (va_cwS 5 C.1.2.2.2.2 (hw_S tw_m_RL_132 tw_t_L_call tw_n_RL tw_k_L_call) rfl rfl rfl (by decide +kernel) ⟨Nat.le_of_ble_eq_true rfl, Nat.le_of_ble_eq_true rfl⟩) (List.Perm.of_eq (List.append_nil _).symm) rfl rfl (Nat.le_of_ble_eq_true rfl) dL_act_183 ⟨Nat.le_of_ble_eq_true rfl, Nat.le_of_ble_eq_true rfl⟩ (fun u12 hu12 => ?_)
    refine hv_weq (ws' := ob_W dA a (st_undo L) u12) (List.append_nil _) ?_
    refine hv_eqst (st' := [.int (zI (an_undo L))]) rfl ?_
    have hac := (show ac L x = (an_undo L, st_undo L) by unfold ac; rw [if_neg (by omega), if_neg (by omega), if_neg (by omega), if_neg (by omega), if_neg (by omega), if_pos (by omega)])
    refine hv_weq (ws' := ob_W dA a (ac L x).2 u12) (by rw [hac]) ?_
    exact hv_iret C M dL_act_186 rfl rfl u12 hu12.1 (by rw [hac]) [] (List.Perm.of_eq (List.append_nil _).symm) (Nat.le_of_ble_eq_true rfl) (Nat.le_of_ble_eq_true rfl)
  · refine hv_topi (y := zI (9)) (by rw [hq]) ?_
    refine hv_tabIn C dL_act_33 (by decide) (by decide) rfl (tgt := 187) (by decide) ?_
    refine hv_iload_n C dL_act_187 3 rfl ?_
    refine hv_iconst C dL_act_188 (v := zI (2)) rfl ?_
    refine hv_irem C dL_act_189 (z := zI (x / 16 % 2)) ((zI_ne0 (by omega)).mpr (by omega)) ((zI_rem (by omega)).trans (zI_c (by omega))) ?_
    refine hv_if_ne C dL_act_190 (tgt := 209) (by decide) (zI_ne0 (by omega)) (fun hc190 => ?_) (fun hc190 => ?_)
    · refine hv_aload_n C dL_act_209 4 rfl ?_
      refine hv_bipush C dL_act_210 (v := zI (14)) (by decide +kernel) ?_
      refine hv_iload_n C dL_act_212 3 rfl ?_
      refine hv_iconst C dL_act_213 (v := zI (2)) rfl ?_
      refine hv_idiv C dL_act_214 (z := zI (x / 16 / 2)) ((zI_ne0 (by omega)).mpr (by omega)) ((zI_div (by omega)).trans (zI_c (by omega))) ?_
      refine hv_iconst C dL_act_215 (v := zI (2)) rfl ?_
      refine hv_irem C dL_act_216 (z := zI (x / 16 / 2 % 2)) ((zI_ne0 (by omega)).mpr (by omega)) ((zI_rem (by omega)).trans (zI_c (by omega))) ?_
      refine hv_iconst C dL_act_217 (v := zI (0)) rfl ?_
      refine hv_iconst C dL_act_218 (v := zI (0)) rfl ?_
      refine hz_callS (As := [.ref (a 0), .int (zI (14)), .int (zI (x / 16 / 2 % 2)), .int (zI (0)), .int (zI (0))]) (rest := []) (wc := ob_W dA a L u2) (wr := []) C X (k_C_back l D dA sa hst a L u2 hJ hu2.1 (x / 16 / 2 % 2) (by omega) (0) (0)) (va_cwS 5 C.1.2.2.2.2 (hw_S tw_m_RL_132 tw_t_L_call tw_n_RL tw_k_L_call) rfl rfl rfl (by decide +kernel) ⟨Nat.le_of_ble_eq_true rfl, Nat.le_of_ble_eq_true rfl⟩) (List.Perm.of_eq (List.append_nil _).symm) rfl rfl (Nat.le_of_ble_eq_true rfl) dL_act_219 ⟨Nat.le_of_ble_eq_true rfl, Nat.le_of_ble_eq_true rfl⟩ (fun u13 hu13 => ?_)
      refine hv_weq (ws' := ob_W dA a (st_back L (x / 16 / 2 % 2)) u13) (List.append_nil _) ?_
      refine hv_eqst (st' := [.int (zI (an_back L (x / 16 / 2 % 2)))]) rfl ?_
      have hac := (show ac L x = (an_back L (x / 16 / 2 % 2), st_back L (x / 16 / 2 % 2)) by unfold ac; rw [if_neg (by omega), if_neg (by omega), if_neg (by omega), if_neg (by omega), if_neg (by omega), if_neg (by omega), if_pos (by omega), if_neg (by omega)])
      refine hv_weq (ws' := ob_W dA a (ac L x).2 u13) (by rw [hac]) ?_
      exact hv_iret C M dL_act_222 rfl rfl u13 hu13.1 (by rw [hac]) [] (List.Perm.of_eq (List.append_nil _).symm) (Nat.le_of_ble_eq_true rfl) (Nat.le_of_ble_eq_true rfl)
    · refine hv_aload_n C dL_act_193 4 rfl ?_
      refine hv_bipush C dL_act_194 (v := zI (13)) (by decide +kernel) ?_
      refine hv_iload_n C dL_act_196 3 rfl ?_
      refine hv_iconst C dL_act_197 (v := zI (2)) rfl ?_
      refine hv_idiv C dL_act_198 (z := zI (x / 16 / 2)) ((zI_ne0 (by omega)).mpr (by omega)) ((zI_div (by omega)).trans (zI_c (by omega))) ?_
      refine hv_iconst C dL_act_199 (v := zI (2)) rfl ?_
      refine hv_irem C dL_act_200 (z := zI (x / 16 / 2 % 2)) ((zI_ne0 (by omega)).mpr (by omega)) ((zI_rem (by omega)).trans (zI_c (by omega))) ?_
      refine hv_iconst C dL_act_201 (v := zI (0)) rfl ?_
      refine hv_iconst C dL_act_202 (v := zI (0)) rfl ?_
      refine hz_callS (As := [.ref (a 0), .int (zI (13)), .int (zI (x / 16 / 2 % 2)), .int (zI (0)), .int (zI (0))]) (rest := []) (wc := ob_W dA a L u2) (wr := []) C X (k_C_keep l D dA sa hst a L u2 hJ hu2.1 (x / 16 / 2 % 2) (by omega) (0) (0)) (va_cwS 5 C.1.2.2.2.2 (hw_S tw_m_RL_132 tw_t_L_call tw_n_RL tw_k_L_call) rfl rfl rfl (by decide +kernel) ⟨Nat.le_of_ble_eq_true rfl, Nat.le_of_ble_eq_true rfl⟩) (List.Perm.of_eq (List.append_nil _).symm) rfl rfl (Nat.le_of_ble_eq_true rfl) dL_act_203 ⟨Nat.le_of_ble_eq_true rfl, Nat.le_of_ble_eq_true rfl⟩ (fun u14 hu14 => ?_)
      refine hv_weq (ws' := ob_W dA a (st_keep L (x / 16 / 2 % 2)) u14) (List.append_nil _) ?_
      refine hv_eqst (st' := [.int (zI (an_keep L (x / 16 / 2 % 2)))]) rfl ?_
      refine hv_goto C dL_act_206 (tgt := 222) (by decide) ?_
      have hac := (show ac L x = (an_keep L (x / 16 / 2 % 2), st_keep L (x / 16 / 2 % 2)) by unfold ac; rw [if_neg (by omega), if_neg (by omega), if_neg (by omega), if_neg (by omega), if_neg (by omega), if_neg (by omega), if_pos (by omega), if_pos (by omega)])
      refine hv_weq (ws' := ob_W dA a (ac L x).2 u14) (by rw [hac]) ?_
      exact hv_iret C M dL_act_222 rfl rfl u14 hu14.1 (by rw [hac]) [] (List.Perm.of_eq (List.append_nil _).symm) (Nat.le_of_ble_eq_true rfl) (Nat.le_of_ble_eq_true rfl)
  · refine hv_tabOut C dL_act_33 (by rw [zI_toInt (by omega)]; omega) (tgt := 223) (by decide) ?_
    refine hv_aload_n C dL_act_223 4 rfl ?_
    refine hv_bipush C dL_act_224 (v := zI (7)) (by decide +kernel) ?_
    refine hv_iload C dL_act_226 0 rfl ?_
    refine hv_iload C dL_act_228 0 rfl ?_
    refine hv_iload_n C dL_act_230 3 rfl ?_
    refine hv_bipush C dL_act_231 (v := zI (8)) (by decide +kernel) ?_
    refine hv_idiv C dL_act_233 (z := zI (x / 16 / 8)) ((zI_ne0 (by omega)).mpr (by omega)) ((zI_div (by omega)).trans (zI_c (by omega))) ?_
    refine hv_iload C dL_act_234 1 rfl ?_
    refine hv_irem C dL_act_236 (z := zI (ac_w L x)) ((zI_ne0 (by omega)).mpr (by omega)) ((zI_rem (by omega)).trans (zI_c (by rfl))) ?_
    refine hv_iadd C dL_act_237 (z := zI (ac_i L x + ac_w L x)) ((zI_add _ _).trans (zI_c (by omega))) ?_
    refine hv_iconst C dL_act_238 (v := zI (1)) rfl ?_
    refine hv_iload_n C dL_act_239 3 rfl ?_
    refine hv_bipush C dL_act_240 (v := zI (32)) (by decide +kernel) ?_
    refine hv_idiv C dL_act_242 (z := zI (x / 16 / 32)) ((zI_ne0 (by omega)).mpr (by omega)) ((zI_div (by omega)).trans (zI_c (by omega))) ?_
    refine hv_iconst C dL_act_243 (v := zI (3)) rfl ?_
    refine hv_irem C dL_act_244 (z := zI (x / 16 / 32 % 3)) ((zI_ne0 (by omega)).mpr (by omega)) ((zI_rem (by omega)).trans (zI_c (by omega))) ?_
    refine hv_iadd C dL_act_245 (z := zI (1 + x / 16 / 32 % 3)) ((zI_add _ _).trans (zI_c (by omega))) ?_
    refine hz_callS (As := [.ref (a 0), .int (zI (7)), .int (zI (ac_i L x)), .int (zI (ac_i L x + ac_w L x)), .int (zI (1 + x / 16 / 32 % 3))]) (rest := []) (wc := ob_W dA a L u2) (wr := []) C X (k_C_clip l D dA sa hst a L u2 hJ hu2.1 (ac_i L x) (by omega) (ac_i L x + ac_w L x) (by omega) (1 + x / 16 / 32 % 3) (by omega)) (va_cwS 5 C.1.2.2.2.2 (hw_S tw_m_RL_132 tw_t_L_call tw_n_RL tw_k_L_call) rfl rfl rfl (by decide +kernel) ⟨Nat.le_of_ble_eq_true rfl, Nat.le_of_ble_eq_true rfl⟩) (List.Perm.of_eq (List.append_nil _).symm) rfl rfl (Nat.le_of_ble_eq_true rfl) dL_act_246 ⟨Nat.le_of_ble_eq_true rfl, Nat.le_of_ble_eq_true rfl⟩ (fun u15 hu15 => ?_)
    refine hv_weq (ws' := ob_W dA a (st_clip L (ac_i L x) (ac_i L x + ac_w L x) (1 + x / 16 / 32 % 3)) u15) (List.append_nil _) ?_
    refine hv_eqst (st' := [.int (zI (an_clip L (ac_i L x) (ac_i L x + ac_w L x) (1 + x / 16 / 32 % 3)))]) rfl ?_
    have hac := (show ac L x = (an_clip L (ac_i L x) (ac_i L x + ac_w L x) (1 + x / 16 / 32 % 3), st_clip L (ac_i L x) (ac_i L x + ac_w L x) (1 + x / 16 / 32 % 3)) by unfold ac; rw [if_neg (by omega), if_neg (by omega), if_neg (by omega), if_neg (by omega), if_neg (by omega), if_neg (by omega), if_neg (by omega)])
    refine hv_weq (ws' := ob_W dA a (ac L x).2 u15) (by rw [hac]) ?_
    exact hv_iret C M dL_act_249 rfl rfl u15 hu15.1 (by rw [hac]) [] (List.Perm.of_eq (List.append_nil _).symm) (Nat.le_of_ble_eq_true rfl) (Nat.le_of_ble_eq_true rfl)

